set_option maxHeartbeats 4000000 in
set_option maxRecDepth 100000 in
theorem w_Ck_isNew_j55 {E : (Nat → Prop) → State → Heap → Prop} {p : Program} {l : Launch} {e : Env} {s : State} {m : MethodId} {args : Array Value} {below : List Frame} {meth : Method} {c : Code} {D : va_G} {ad kd sd vd xd : Nat → Nat} {ca : Nat → ClassId} {A : Nat → Prop} {Q : State → Prop} (hE : o_EK E kd sd vd xd) (C : o_Cx E p s m args meth c D o_cls (o_tys ca) "SchemaJudge$Checker" b_Ck_isNew (some .boolean) 5 cc_Ck_isNew A) (hDD : ∀ (rt : Nat) (Sj : SSJ) (T0 : STx) (T1 : STx) (Rd : SRd) (Pg : SPg) (Pt : SPt) (Mk : SMk) (Lk : SLk) (Ck : SCk) (Jd : SJd) (Ld : SLd) (Pr : SPr), va_D A (o_cw ad ca rt Sj T0 T1 Rd Pg Pt Mk Lk Ck Jd Ld Pr)) (n : Nat) (u12_x2 : Int32) (u12_T0 : STx) (u12_Sj : SSJ) (u12_T1 : STx) (u12_Rd : SRd) (u12_Pg : SPg) (u12_Pt : SPt) (u12_Mk : SMk) (u12_Lk : SLk) (u12_Ck : SCk) (u12_Jd : SJd) (u12_Ld : SLd) (u12_Pr : SPr) (u12_rt : Nat) (x3 : Int32) (x4 : Int32) {q : Nat × Int32 × Int32} (h : m_Ck_isNew_j55 n u12_x2 x3 x4 u12_T0 = some q) (h0 : q.1 = 0 → o_At p l e rm_Ck_isNew s m args below meth c Q o_cls D A 5 12 [] (o_cw ad ca u12_rt u12_Sj u12_T0 u12_T1 u12_Rd u12_Pg u12_Pt u12_Mk u12_Lk u12_Ck u12_Jd u12_Ld u12_Pr) [(0, .ref (ad 45)), (2, .int u12_x2), (3, .int q.2.1), (4, .int q.2.2)]) (h1 : q.1 ≠ 0 → (if q.1 = 1 then o_At p l e rm_Ck_isNew s m args below meth c Q o_cls D A 5 53 [] (o_cw ad ca u12_rt u12_Sj u12_T0 u12_T1 u12_Rd u12_Pg u12_Pt u12_Mk u12_Lk u12_Ck u12_Jd u12_Ld u12_Pr) [] else o_At p l e rm_Ck_isNew s m args below meth c Q o_cls D A 5 70 [] (o_cw ad ca u12_rt u12_Sj u12_T0 u12_T1 u12_Rd u12_Pg u12_Pt u12_Mk u12_Lk u12_Ck u12_Jd u12_Ld u12_Pr) [])) : o_At p l e rm_Ck_isNew s m args below meth c Q o_cls D A 5 55 [] (o_cw ad ca u12_rt u12_Sj u12_T0 u12_T1 u12_Rd u12_Pg u12_Pt u12_Mk u12_Lk u12_Ck u12_Jd u12_Ld u12_Pr) [(0, .ref (ad 45)), (2, .int u12_x2), (3, .int x3), (4, .int x4)] := by
  unfold m_Ck_isNew_j55 at h
  intro H locs ls hP hS hl
  have C0 := C
  obtain ⟨hx, hb, -, -, -, hown, hts, hK, -, -⟩ := C0
  refine lv_aload_n hx hb d_Ck_isNew_55 rfl (lv_at hl 0 rfl) ?_
  refine o_get (v := .ref (ad 1)) C in_Ck hP 45 cw_45 rfl 0 (by decide) k_2_7 rfl rfl d_Ck_isNew_56 ?_
  refine lv_iload_n hx hb d_Ck_isNew_59 rfl (lv_at hl 2 rfl) ?_
  obtain ⟨q4, hq4, h⟩ := o_bd_some h
  refine o_V (st1 := [.int q4]) (w1 := (o_cw ad ca u12_rt u12_Sj u12_T0 u12_T1 u12_Rd u12_Pg u12_Pt u12_Mk u12_Lk u12_Ck u12_Jd u12_Ld u12_Pr)) hE.1 C (c_Tx_nextChild_0 hE l x3 u12_T0 u12_Sj u12_T1 u12_Rd u12_Pg u12_Pt u12_Mk u12_Lk u12_Ck u12_Jd u12_Ld u12_Pr u12_rt hq4) hP (hDD _ _ _ _ _ _ _ _ _ _ _ _ _) hS hl.1 rfl cw_1 k_4_101 k_3_222 k_3_223 k_1_2 k_3_224 hv_Tx_nextChild rfl rfl ⟨(Nat.le_of_ble_eq_true rfl), (Nat.le_of_ble_eq_true rfl)⟩ rfl (Nat.le_of_ble_eq_true rfl) ⟨Nat.zero_le _, Nat.zero_le _⟩ rfl d_Ck_isNew_60 (fun H locs hP hS => ?_)
  refine lv_istore_n (lv' := [(3, .int q4), (0, .ref (ad 45)), (2, .int u12_x2), (4, .int x4)]) hx hb d_Ck_isNew_63 rfl hl (by decide) rfl (fun ls hl => ?_)
  obtain ⟨x4_64, ex4_64⟩ : ∃ y : Int32, y = x4 + (1:Int32) := ⟨_, rfl⟩
  replace h := o_nm_at ex4_64 h
  refine lv_iinc (v := x4_64) (lv' := [(4, .int x4_64), (3, .int q4), (0, .ref (ad 45)), (2, .int u12_x2)]) hx hb d_Ck_isNew_64 hl (k := 3) rfl (by rw [ex4_64]; rfl) (by decide) rfl (fun ls hl => ?_)
  refine lv_goto (tgt := 12) hx hb d_Ck_isNew_67 (by decide) ?_
  cases h
  exact h0 rfl _ _ _ hP hS (lv_sub hl [2, 3, 1, 0] rfl)
set_option maxHeartbeats 4000000 in
set_option maxRecDepth 100000 in
theorem w_Ck_isNew_b12 {E : (Nat → Prop) → State → Heap → Prop} {p : Program} {l : Launch} {e : Env} {s : State} {m : MethodId} {args : Array Value} {below : List Frame} {meth : Method} {c : Code} {D : va_G} {ad kd sd vd xd : Nat → Nat} {ca : Nat → ClassId} {A : Nat → Prop} {Q : State → Prop} (hE : o_EK E kd sd vd xd) (C : o_Cx E p s m args meth c D o_cls (o_tys ca) "SchemaJudge$Checker" b_Ck_isNew (some .boolean) 5 cc_Ck_isNew A) (hDD : ∀ (rt : Nat) (Sj : SSJ) (T0 : STx) (T1 : STx) (Rd : SRd) (Pg : SPg) (Pt : SPt) (Mk : SMk) (Lk : SLk) (Ck : SCk) (Jd : SJd) (Ld : SLd) (Pr : SPr), va_D A (o_cw ad ca rt Sj T0 T1 Rd Pg Pt Mk Lk Ck Jd Ld Pr)) (n : Nat) (u12_x2 : Int32) (u12_T0 : STx) (u12_Sj : SSJ) (u12_T1 : STx) (u12_Rd : SRd) (u12_Pg : SPg) (u12_Pt : SPt) (u12_Mk : SMk) (u12_Lk : SLk) (u12_Ck : SCk) (u12_Jd : SJd) (u12_Ld : SLd) (u12_Pr : SPr) (u12_rt : Nat) (z : Int32 × Int32) (q : Nat × Int32 × Int32) (h : m_Ck_isNew_b12 n u12_x2 u12_T0 z = some q) (h0 : q.1 = 0 → o_At p l e rm_Ck_isNew s m args below meth c Q o_cls D A 5 12 [] (o_cw ad ca u12_rt u12_Sj u12_T0 u12_T1 u12_Rd u12_Pg u12_Pt u12_Mk u12_Lk u12_Ck u12_Jd u12_Ld u12_Pr) [(0, .ref (ad 45)), (2, .int u12_x2), (3, .int q.2.1), (4, .int q.2.2)]) (h1 : q.1 ≠ 0 → (if q.1 = 1 then o_At p l e rm_Ck_isNew s m args below meth c Q o_cls D A 5 53 [] (o_cw ad ca u12_rt u12_Sj u12_T0 u12_T1 u12_Rd u12_Pg u12_Pt u12_Mk u12_Lk u12_Ck u12_Jd u12_Ld u12_Pr) [] else o_At p l e rm_Ck_isNew s m args below meth c Q o_cls D A 5 70 [] (o_cw ad ca u12_rt u12_Sj u12_T0 u12_T1 u12_Rd u12_Pg u12_Pt u12_Mk u12_Lk u12_Ck u12_Jd u12_Ld u12_Pr) [])) : o_At p l e rm_Ck_isNew s m args below meth c Q o_cls D A 5 12 [] (o_cw ad ca u12_rt u12_Sj u12_T0 u12_T1 u12_Rd u12_Pg u12_Pt u12_Mk u12_Lk u12_Ck u12_Jd u12_Ld u12_Pr) [(0, .ref (ad 45)), (2, .int u12_x2), (3, .int z.1), (4, .int z.2)] := by
  unfold m_Ck_isNew_b12 at h
  intro H locs ls hP hS hl
  have C0 := C
  obtain ⟨hx, hb, -, -, -, hown, hts, hK, -, -⟩ := C0
  refine lv_iload hx hb d_Ck_isNew_12 (lv_at hl 3 rfl) ?_
  refine lv_aload_n hx hb d_Ck_isNew_14 rfl (lv_at hl 0 rfl) ?_
  refine o_get (v := .ref (ad 1)) C in_Ck hP 45 cw_45 rfl 0 (by decide) k_2_7 rfl rfl d_Ck_isNew_15 ?_
  refine lv_iload_n hx hb d_Ck_isNew_18 rfl (lv_at hl 1 rfl) ?_
  obtain ⟨q2, hq2, h⟩ := o_bd_some h
  refine o_V (st1 := [.int q2, .int z.2]) (w1 := (o_cw ad ca u12_rt u12_Sj u12_T0 u12_T1 u12_Rd u12_Pg u12_Pt u12_Mk u12_Lk u12_Ck u12_Jd u12_Ld u12_Pr)) hE.1 C (c_Tx_slot_0 hE l u12_x2 u12_T0 u12_Sj u12_T1 u12_Rd u12_Pg u12_Pt u12_Mk u12_Lk u12_Ck u12_Jd u12_Ld u12_Pr u12_rt hq2) hP (hDD _ _ _ _ _ _ _ _ _ _ _ _ _) hS hl.1 rfl cw_1 k_5_105 k_5_106 k_5_107 k_1_2 k_5_108 hv_Tx_slot rfl rfl ⟨(Nat.le_of_ble_eq_true rfl), (Nat.le_of_ble_eq_true rfl)⟩ rfl (Nat.le_of_ble_eq_true rfl) ⟨Nat.zero_le _, Nat.zero_le _⟩ rfl d_Ck_isNew_19 (fun H locs hP hS => ?_)
  refine lv_icmp_ge (tgt := 70) hx hb d_Ck_isNew_22 (by decide) (fun c1 => ?_) (fun c1 => ?_)
  · replace h := o_tt c1 h
    cases h
    exact h1 (Nat.succ_ne_zero 1) _ _ _ hP hS (lv_sub hl [] rfl)
  · replace h := o_ff c1 h
    refine lv_aload_n hx hb d_Ck_isNew_25 rfl (lv_at hl 0 rfl) ?_
    refine o_get (v := .ref (ad 1)) C in_Ck hP 45 cw_45 rfl 0 (by decide) k_2_7 rfl rfl d_Ck_isNew_26 ?_
    refine lv_iload_n hx hb d_Ck_isNew_29 rfl (lv_at hl 2 rfl) ?_
    obtain ⟨q3, hq3, h⟩ := o_bd_some h
    refine o_V (st1 := [.int q3]) (w1 := (o_cw ad ca u12_rt u12_Sj u12_T0 u12_T1 u12_Rd u12_Pg u12_Pt u12_Mk u12_Lk u12_Ck u12_Jd u12_Ld u12_Pr)) hE.1 C (c_Tx_kind_0 hE l z.1 u12_T0 u12_Sj u12_T1 u12_Rd u12_Pg u12_Pt u12_Mk u12_Lk u12_Ck u12_Jd u12_Ld u12_Pr u12_rt hq3) hP (hDD _ _ _ _ _ _ _ _ _ _ _ _ _) hS hl.1 rfl cw_1 k_4_96 k_4_50 k_4_51 k_1_2 k_4_52 hv_Tx_kind rfl rfl ⟨(Nat.le_of_ble_eq_true rfl), (Nat.le_of_ble_eq_true rfl)⟩ rfl (Nat.le_of_ble_eq_true rfl) ⟨Nat.zero_le _, Nat.zero_le _⟩ rfl d_Ck_isNew_30 (fun H locs hP hS => ?_)
    refine lv_iconst (v := (4:Int32)) hx hb d_Ck_isNew_33 (by decide) ?_
    refine lv_icmp_ne (tgt := 55) hx hb d_Ck_isNew_34 (by decide) (fun c2 => ?_) (fun c2 => ?_)
    · replace h := o_ff c2 h
      exact w_Ck_isNew_j55 hE C hDD n u12_x2 u12_T0 u12_Sj u12_T1 u12_Rd u12_Pg u12_Pt u12_Mk u12_Lk u12_Ck u12_Jd u12_Ld u12_Pr u12_rt z.1 z.2 h h0 h1 _ _ _ hP hS (lv_sub hl [0, 1, 2, 3] rfl)
    · replace h := o_tt c2 h
      refine lv_aload_n hx hb d_Ck_isNew_37 rfl (lv_at hl 0 rfl) ?_
      refine o_get (v := .ref (ad 1)) C in_Ck hP 45 cw_45 rfl 0 (by decide) k_2_7 rfl rfl d_Ck_isNew_38 ?_
      refine lv_iload_n hx hb d_Ck_isNew_41 rfl (lv_at hl 2 rfl) ?_
      refine lv_aload_n hx hb d_Ck_isNew_42 rfl (lv_at hl 0 rfl) ?_
      refine o_get (v := .ref (ad 1)) C in_Ck hP 45 cw_45 rfl 0 (by decide) k_2_7 rfl rfl d_Ck_isNew_43 ?_
      refine lv_iload_n hx hb d_Ck_isNew_46 rfl (lv_at hl 1 rfl) ?_
      obtain ⟨q5, hq5, h⟩ := o_bd_some h
      refine o_S (st1 := [.int q5]) (w1 := (o_cw ad ca u12_rt u12_Sj u12_T0 u12_T1 u12_Rd u12_Pg u12_Pt u12_Mk u12_Lk u12_Ck u12_Jd u12_Ld u12_Pr)) hE.1 C (c_Tx_sameString_00 hE l n z.1 u12_x2 u12_T0 u12_Sj u12_T1 u12_Rd u12_Pg u12_Pt u12_Mk u12_Lk u12_Ck u12_Jd u12_Ld u12_Pr u12_rt hq5) hP (hDD _ _ _ _ _ _ _ _ _ _ _ _ _) hS hl.1 k_5_109 k_3_219 k_1_2 k_3_220 hs_Tx_sameString rfl rfl ⟨(Nat.le_of_ble_eq_true rfl), (Nat.le_of_ble_eq_true rfl)⟩ rfl (Nat.le_of_ble_eq_true rfl) ⟨Nat.zero_le _, Nat.zero_le _⟩ rfl d_Ck_isNew_47 (fun H locs hP hS => ?_)
      refine lv_if_eq (tgt := 55) hx hb d_Ck_isNew_50 (by decide) (fun c3 => ?_) (fun c3 => ?_)
      · replace h := o_tt c3 h
        exact w_Ck_isNew_j55 hE C hDD n u12_x2 u12_T0 u12_Sj u12_T1 u12_Rd u12_Pg u12_Pt u12_Mk u12_Lk u12_Ck u12_Jd u12_Ld u12_Pr u12_rt z.1 z.2 h h0 h1 _ _ _ hP hS (lv_sub hl [0, 1, 2, 3] rfl)
      · replace h := o_ff c3 h
        cases h
        exact h1 (Nat.succ_ne_zero 0) _ _ _ hP hS (lv_sub hl [] rfl)
set_option maxHeartbeats 4000000 in
set_option maxRecDepth 100000 in
theorem c_Ck_isNew {E : (Nat → Prop) → State → Heap → Prop} {D : va_G} {ad kd sd vd xd : Nat → Nat} {ca : Nat → ClassId} (hE : o_EK E kd sd vd xd) (l : Launch) (n : Nat) (x1 : Int32) (x2 : Int32) (T0 : STx) (Sj : SSJ) (T1 : STx) (Rd : SRd) (Pg : SPg) (Pt : SPt) (Mk : SMk) (Lk : SLk) (Ck : SCk) (Jd : SJd) (Ld : SLd) (Pr : SPr) (rt : Nat) {r : Int32} (h : m_Ck_isNew n x1 x2 T0 = some r) : o_Cn E l D o_cls (o_tys ca) y_Ck_isNew cc_Ck_isNew rm_Ck_isNew [.ref (ad 45), .int x1, .int x2] (o_cw ad ca rt Sj T0 T1 Rd Pg Pt Mk Lk Ck Jd Ld Pr) (o_cw ad ca rt Sj T0 T1 Rd Pg Pt Mk Lk Ck Jd Ld Pr) (some (.int r)) := by
  refine o_Cn_of (by decide) (Nat.le_of_ble_eq_true rfl) ?_
  intro p e s m below meth c A ls C hD hP hS hl
  have hDD : ∀ (rt : Nat) (Sj : SSJ) (T0 : STx) (T1 : STx) (Rd : SRd) (Pg : SPg) (Pt : SPt) (Mk : SMk) (Lk : SLk) (Ck : SCk) (Jd : SJd) (Ld : SLd) (Pr : SPr), va_D A (o_cw ad ca rt Sj T0 T1 Rd Pg Pt Mk Lk Ck Jd Ld Pr) := fun _ _ _ _ _ _ _ _ _ _ _ _ _ => o_D_map hD rfl
  have hl : lv_has ls 5 [(0, .ref (ad 45)), (1, .int x1), (2, .int x2)] := hl
  unfold m_Ck_isNew at h
  have C0 := C
  obtain ⟨hx, hb, -, -, -, hown, hts, hK, -, -⟩ := C0
  refine lv_aload_n hx hb d_Ck_isNew_0 rfl (lv_at hl 0 rfl) ?_
  refine o_get (v := .ref (ad 1)) C in_Ck hP 45 cw_45 rfl 0 (by decide) k_2_7 rfl rfl d_Ck_isNew_1 ?_
  refine lv_iload_n hx hb d_Ck_isNew_4 rfl (lv_at hl 1 rfl) ?_
  obtain ⟨q1, hq1, h⟩ := o_bd_some h
  refine o_V (st1 := [.int q1]) (w1 := (o_cw ad ca rt Sj T0 T1 Rd Pg Pt Mk Lk Ck Jd Ld Pr)) hE.1 C (c_Tx_firstChild_0 hE l x1 T0 Sj T1 Rd Pg Pt Mk Lk Ck Jd Ld Pr rt hq1) hP (hDD _ _ _ _ _ _ _ _ _ _ _ _ _) hS hl.1 rfl cw_1 k_4_70 k_3_211 k_3_212 k_1_2 k_3_213 hv_Tx_firstChild rfl rfl ⟨(Nat.le_of_ble_eq_true rfl), (Nat.le_of_ble_eq_true rfl)⟩ rfl (Nat.le_of_ble_eq_true rfl) ⟨Nat.zero_le _, Nat.zero_le _⟩ rfl d_Ck_isNew_5 (fun H locs hP hS => ?_)
  refine lv_istore_n (lv' := [(3, .int q1), (0, .ref (ad 45)), (1, .int x1), (2, .int x2)]) hx hb d_Ck_isNew_8 rfl hl (by decide) rfl (fun ls hl => ?_)
  refine lv_iconst (v := (0:Int32)) hx hb d_Ck_isNew_9 (by decide) ?_
  refine lv_istore (lv' := [(4, .int (0:Int32)), (3, .int q1), (0, .ref (ad 45)), (1, .int x1), (2, .int x2)]) hx hb d_Ck_isNew_10 hl (by decide) rfl (fun ls hl => ?_)
  obtain ⟨q6, hq6, h⟩ := o_bd_some h
  refine o_sim2 (AH := fun zz => o_At p l e rm_Ck_isNew s m _ below meth c _ o_cls D A 5 12 [] (o_cw ad ca rt Sj T0 T1 Rd Pg Pt Mk Lk Ck Jd Ld Pr) [(0, .ref (ad 45)), (2, .int x2), (3, .int zz.1), (4, .int zz.2)]) (AX := fun qq => if qq.1 = 1 then o_At p l e rm_Ck_isNew s m _ below meth c _ o_cls D A 5 53 [] (o_cw ad ca rt Sj T0 T1 Rd Pg Pt Mk Lk Ck Jd Ld Pr) [] else o_At p l e rm_Ck_isNew s m _ below meth c _ o_cls D A 5 70 [] (o_cw ad ca rt Sj T0 T1 Rd Pg Pt Mk Lk Ck Jd Ld Pr) []) (fun zz qq h h0 h1 => w_Ck_isNew_b12 hE C hDD n x2 T0 Sj T1 Rd Pg Pt Mk Lk Ck Jd Ld Pr rt zz qq h h0 h1) n _ q6 hq6 ?_ _ _ _ hP hS (lv_sub hl [2, 4, 1, 0] rfl)
  by_cases c4 : q6.1 = 1
  · replace h := o_tt c4 h
    refine o_ip c4 ?_
    intro H locs ls hP hS hl
    refine lv_iconst (v := (0:Int32)) hx hb d_Ck_isNew_53 (by decide) ?_
    cases h
    exact o_rz (v := (0:Int32)) C o_nar0 hP hS d_Ck_isNew_54
  replace h := o_ff c4 h
  refine o_in_ c4 ?_
  intro H locs ls hP hS hl
  refine lv_iconst (v := (1:Int32)) hx hb d_Ck_isNew_70 (by decide) ?_
  cases h
  exact o_rz (v := (1:Int32)) C o_nar1 hP hS d_Ck_isNew_71
set_option maxHeartbeats 4000000 in
set_option maxRecDepth 100000 in
theorem w_Ck_inspectTypes_j85 {E : (Nat → Prop) → State → Heap → Prop} {p : Program} {l : Launch} {e : Env} {s : State} {m : MethodId} {args : Array Value} {below : List Frame} {meth : Method} {c : Code} {D : va_G} {ad kd sd vd xd : Nat → Nat} {ca : Nat → ClassId} {A : Nat → Prop} {Q : State → Prop} (hE : o_EK E kd sd vd xd) (C : o_Cx E p s m args meth c D o_cls (o_tys ca) "SchemaJudge$Checker" b_Ck_inspectTypes none 5 cc_Ck_inspectTypes A) (hDD : ∀ (rt : Nat) (Sj : SSJ) (T0 : STx) (T1 : STx) (Rd : SRd) (Pg : SPg) (Pt : SPt) (Mk : SMk) (Lk : SLk) (Ck : SCk) (Jd : SJd) (Ld : SLd) (Pr : SPr), va_D A (o_cw ad ca rt Sj T0 T1 Rd Pg Pt Mk Lk Ck Jd Ld Pr)) (n : Nat) (u49_x1 : Int32) (u49_T0 : STx) (u49_Sj : SSJ) (u49_T1 : STx) (u49_Rd : SRd) (u49_Pg : SPg) (u49_Pt : SPt) (u49_Mk : SMk) (u49_Lk : SLk) (u49_Jd : SJd) (u49_Ld : SLd) (u49_Pr : SPr) (u49_rt : Nat) (x3 : Int32) (x4 : Int32) (y1 : Int32) (Ck : SCk) {q : Nat × Int32 × Int32 × SCk} (h : m_Ck_inspectTypes_j85 n u49_x1 x3 x4 y1 u49_T0 Ck = some q) (h0 : q.1 = 0 → o_At p l e rm_Ck_inspectTypes s m args below meth c Q o_cls D A 5 49 [] (o_cw ad ca u49_rt u49_Sj u49_T0 u49_T1 u49_Rd u49_Pg u49_Pt u49_Mk u49_Lk q.2.2.2 u49_Jd u49_Ld u49_Pr) [(0, .ref (ad 45)), (1, .int u49_x1), (3, .int q.2.1), (4, .int q.2.2.1)]) (h1 : q.1 ≠ 0 → (o_At p l e rm_Ck_inspectTypes s m args below meth c Q o_cls D A 5 104 [] (o_cw ad ca u49_rt u49_Sj u49_T0 u49_T1 u49_Rd u49_Pg u49_Pt u49_Mk u49_Lk q.2.2.2 u49_Jd u49_Ld u49_Pr) [])) : o_At p l e rm_Ck_inspectTypes s m args below meth c Q o_cls D A 5 85 [.int y1, .ref (ad 45)] (o_cw ad ca u49_rt u49_Sj u49_T0 u49_T1 u49_Rd u49_Pg u49_Pt u49_Mk u49_Lk Ck u49_Jd u49_Ld u49_Pr) [(0, .ref (ad 45)), (1, .int u49_x1), (3, .int x3), (4, .int x4)] := by
  unfold m_Ck_inspectTypes_j85 at h
  intro H locs ls hP hS hl
  have C0 := C
  obtain ⟨hx, hb, -, -, -, hown, hts, hK, -, -⟩ := C0
  refine lv_iload_n hx hb d_Ck_inspectTypes_85 rfl (lv_at hl 2 rfl) ?_
  obtain ⟨q6, hq6, h⟩ := o_bd_some h
  refine o_V (st1 := []) (w1 := (o_cw ad ca u49_rt u49_Sj u49_T0 u49_T1 u49_Rd u49_Pg u49_Pt u49_Mk u49_Lk q6 u49_Jd u49_Ld u49_Pr)) hE.1 C (c_Ck_require hE l y1 x3 Ck u49_Sj u49_T0 u49_T1 u49_Rd u49_Pg u49_Pt u49_Mk u49_Lk u49_Jd u49_Ld u49_Pr u49_rt hq6) hP (hDD _ _ _ _ _ _ _ _ _ _ _ _ _) hS hl.1 rfl cw_45 k_4_53 k_4_55 k_s_19 k_1_7 k_4_56 hv_Ck_require rfl rfl ⟨(Nat.le_of_ble_eq_true rfl), (Nat.le_of_ble_eq_true rfl)⟩ rfl (Nat.le_of_ble_eq_true rfl) ⟨Nat.zero_le _, Nat.zero_le _⟩ rfl d_Ck_inspectTypes_86 (fun H locs hP hS => ?_)
  refine lv_aload_n hx hb d_Ck_inspectTypes_89 rfl (lv_at hl 0 rfl) ?_
  refine o_get (v := .ref (ad 1)) C in_Ck hP 45 cw_45 rfl 0 (by decide) k_2_7 rfl rfl d_Ck_inspectTypes_90 ?_
  refine lv_iload_n hx hb d_Ck_inspectTypes_93 rfl (lv_at hl 2 rfl) ?_
  obtain ⟨q7, hq7, h⟩ := o_bd_some h
  refine o_V (st1 := [.int q7]) (w1 := (o_cw ad ca u49_rt u49_Sj u49_T0 u49_T1 u49_Rd u49_Pg u49_Pt u49_Mk u49_Lk q6 u49_Jd u49_Ld u49_Pr)) hE.1 C (c_Tx_nextChild_0 hE l x3 u49_T0 u49_Sj u49_T1 u49_Rd u49_Pg u49_Pt u49_Mk u49_Lk q6 u49_Jd u49_Ld u49_Pr u49_rt hq7) hP (hDD _ _ _ _ _ _ _ _ _ _ _ _ _) hS hl.1 rfl cw_1 k_4_101 k_3_222 k_3_223 k_1_2 k_3_224 hv_Tx_nextChild rfl rfl ⟨(Nat.le_of_ble_eq_true rfl), (Nat.le_of_ble_eq_true rfl)⟩ rfl (Nat.le_of_ble_eq_true rfl) ⟨Nat.zero_le _, Nat.zero_le _⟩ rfl d_Ck_inspectTypes_94 (fun H locs hP hS => ?_)
  refine lv_istore_n (lv' := [(3, .int q7), (0, .ref (ad 45)), (1, .int u49_x1), (4, .int x4)]) hx hb d_Ck_inspectTypes_97 rfl hl (by decide) rfl (fun ls hl => ?_)
  obtain ⟨x4_98, ex4_98⟩ : ∃ y : Int32, y = x4 + (1:Int32) := ⟨_, rfl⟩
  replace h := o_nm_at ex4_98 h
  refine lv_iinc (v := x4_98) (lv' := [(4, .int x4_98), (3, .int q7), (0, .ref (ad 45)), (1, .int u49_x1)]) hx hb d_Ck_inspectTypes_98 hl (k := 3) rfl (by rw [ex4_98]; rfl) (by decide) rfl (fun ls hl => ?_)
  refine lv_goto (tgt := 49) hx hb d_Ck_inspectTypes_101 (by decide) ?_
  cases h
  exact h0 rfl _ _ _ hP hS (lv_sub hl [2, 3, 1, 0] rfl)
set_option maxHeartbeats 4000000 in
set_option maxRecDepth 100000 in
theorem w_Ck_inspectTypes_b49 {E : (Nat → Prop) → State → Heap → Prop} {p : Program} {l : Launch} {e : Env} {s : State} {m : MethodId} {args : Array Value} {below : List Frame} {meth : Method} {c : Code} {D : va_G} {ad kd sd vd xd : Nat → Nat} {ca : Nat → ClassId} {A : Nat → Prop} {Q : State → Prop} (hE : o_EK E kd sd vd xd) (C : o_Cx E p s m args meth c D o_cls (o_tys ca) "SchemaJudge$Checker" b_Ck_inspectTypes none 5 cc_Ck_inspectTypes A) (hDD : ∀ (rt : Nat) (Sj : SSJ) (T0 : STx) (T1 : STx) (Rd : SRd) (Pg : SPg) (Pt : SPt) (Mk : SMk) (Lk : SLk) (Ck : SCk) (Jd : SJd) (Ld : SLd) (Pr : SPr), va_D A (o_cw ad ca rt Sj T0 T1 Rd Pg Pt Mk Lk Ck Jd Ld Pr)) (n : Nat) (u49_x1 : Int32) (u49_T0 : STx) (u49_Sj : SSJ) (u49_T1 : STx) (u49_Rd : SRd) (u49_Pg : SPg) (u49_Pt : SPt) (u49_Mk : SMk) (u49_Lk : SLk) (u49_Jd : SJd) (u49_Ld : SLd) (u49_Pr : SPr) (u49_rt : Nat) (z : Int32 × Int32 × SCk) (q : Nat × Int32 × Int32 × SCk) (h : m_Ck_inspectTypes_b49 n u49_x1 u49_T0 z = some q) (h0 : q.1 = 0 → o_At p l e rm_Ck_inspectTypes s m args below meth c Q o_cls D A 5 49 [] (o_cw ad ca u49_rt u49_Sj u49_T0 u49_T1 u49_Rd u49_Pg u49_Pt u49_Mk u49_Lk q.2.2.2 u49_Jd u49_Ld u49_Pr) [(0, .ref (ad 45)), (1, .int u49_x1), (3, .int q.2.1), (4, .int q.2.2.1)]) (h1 : q.1 ≠ 0 → (o_At p l e rm_Ck_inspectTypes s m args below meth c Q o_cls D A 5 104 [] (o_cw ad ca u49_rt u49_Sj u49_T0 u49_T1 u49_Rd u49_Pg u49_Pt u49_Mk u49_Lk q.2.2.2 u49_Jd u49_Ld u49_Pr) [])) : o_At p l e rm_Ck_inspectTypes s m args below meth c Q o_cls D A 5 49 [] (o_cw ad ca u49_rt u49_Sj u49_T0 u49_T1 u49_Rd u49_Pg u49_Pt u49_Mk u49_Lk z.2.2 u49_Jd u49_Ld u49_Pr) [(0, .ref (ad 45)), (1, .int u49_x1), (3, .int z.1), (4, .int z.2.1)] := by
  unfold m_Ck_inspectTypes_b49 at h
  intro H locs ls hP hS hl
  have C0 := C
  obtain ⟨hx, hb, -, -, -, hown, hts, hK, -, -⟩ := C0
  refine lv_iload hx hb d_Ck_inspectTypes_49 (lv_at hl 3 rfl) ?_
  refine lv_aload_n hx hb d_Ck_inspectTypes_51 rfl (lv_at hl 0 rfl) ?_
  refine o_get (v := .ref (ad 1)) C in_Ck hP 45 cw_45 rfl 0 (by decide) k_2_7 rfl rfl d_Ck_inspectTypes_52 ?_
  refine lv_iload_n hx hb d_Ck_inspectTypes_55 rfl (lv_at hl 1 rfl) ?_
  obtain ⟨q4, hq4, h⟩ := o_bd_some h
  refine o_V (st1 := [.int q4, .int z.2.1]) (w1 := (o_cw ad ca u49_rt u49_Sj u49_T0 u49_T1 u49_Rd u49_Pg u49_Pt u49_Mk u49_Lk z.2.2 u49_Jd u49_Ld u49_Pr)) hE.1 C (c_Tx_size_0 hE l u49_x1 u49_T0 u49_Sj u49_T1 u49_Rd u49_Pg u49_Pt u49_Mk u49_Lk z.2.2 u49_Jd u49_Ld u49_Pr u49_rt hq4) hP (hDD _ _ _ _ _ _ _ _ _ _ _ _ _) hS hl.1 rfl cw_1 k_4_71 k_3_215 k_3_216 k_1_2 k_3_217 hv_Tx_size rfl rfl ⟨(Nat.le_of_ble_eq_true rfl), (Nat.le_of_ble_eq_true rfl)⟩ rfl (Nat.le_of_ble_eq_true rfl) ⟨Nat.zero_le _, Nat.zero_le _⟩ rfl d_Ck_inspectTypes_56 (fun H locs hP hS => ?_)
  refine lv_icmp_ge (tgt := 104) hx hb d_Ck_inspectTypes_59 (by decide) (fun c3 => ?_) (fun c3 => ?_)
  · replace h := o_tt c3 h
    cases h
    exact h1 (Nat.succ_ne_zero 0) _ _ _ hP hS (lv_sub hl [] rfl)
  · replace h := o_ff c3 h
    refine lv_aload_n hx hb d_Ck_inspectTypes_62 rfl (lv_at hl 0 rfl) ?_
    refine lv_aload_n hx hb d_Ck_inspectTypes_63 rfl (lv_at hl 0 rfl) ?_
    refine lv_iload_n hx hb d_Ck_inspectTypes_64 rfl (lv_at hl 2 rfl) ?_
    obtain ⟨q5, hq5, h⟩ := o_bd_some h
    refine o_V (st1 := [.int q5, .ref (ad 45)]) (w1 := (o_cw ad ca u49_rt u49_Sj u49_T0 u49_T1 u49_Rd u49_Pg u49_Pt u49_Mk u49_Lk z.2.2 u49_Jd u49_Ld u49_Pr)) hE.1 C (c_Ck_isType hE l n z.1 u49_T0 u49_Sj u49_T1 u49_Rd u49_Pg u49_Pt u49_Mk u49_Lk z.2.2 u49_Jd u49_Ld u49_Pr u49_rt hq5) hP (hDD _ _ _ _ _ _ _ _ _ _ _ _ _) hS hl.1 rfl cw_45 k_5_89 k_5_91 k_s_40 k_1_7 k_5_92 hv_Ck_isType rfl rfl ⟨(Nat.le_of_ble_eq_true rfl), (Nat.le_of_ble_eq_true rfl)⟩ rfl (Nat.le_of_ble_eq_true rfl) ⟨Nat.zero_le _, Nat.zero_le _⟩ rfl d_Ck_inspectTypes_65 (fun H locs hP hS => ?_)
    refine lv_if_eq (tgt := 84) hx hb d_Ck_inspectTypes_68 (by decide) (fun c4 => ?_) (fun c4 => ?_)
    · replace h := o_tt c4 h
      refine lv_iconst (v := (0:Int32)) hx hb d_Ck_inspectTypes_84 (by decide) ?_
      exact w_Ck_inspectTypes_j85 hE C hDD n u49_x1 u49_T0 u49_Sj u49_T1 u49_Rd u49_Pg u49_Pt u49_Mk u49_Lk u49_Jd u49_Ld u49_Pr u49_rt z.1 z.2.1 (0:Int32) z.2.2 h h0 h1 _ _ _ hP hS (lv_sub hl [0, 1, 2, 3] rfl)
    · replace h := o_ff c4 h
      refine lv_aload_n hx hb d_Ck_inspectTypes_71 rfl (lv_at hl 0 rfl) ?_
      refine lv_iload_n hx hb d_Ck_inspectTypes_72 rfl (lv_at hl 1 rfl) ?_
      refine lv_iload_n hx hb d_Ck_inspectTypes_73 rfl (lv_at hl 2 rfl) ?_
      obtain ⟨q8, hq8, h⟩ := o_bd_some h
      refine o_V (st1 := [.int q8, .ref (ad 45)]) (w1 := (o_cw ad ca u49_rt u49_Sj u49_T0 u49_T1 u49_Rd u49_Pg u49_Pt u49_Mk u49_Lk z.2.2 u49_Jd u49_Ld u49_Pr)) hE.1 C (c_Ck_isNew hE l n u49_x1 z.1 u49_T0 u49_Sj u49_T1 u49_Rd u49_Pg u49_Pt u49_Mk u49_Lk z.2.2 u49_Jd u49_Ld u49_Pr u49_rt hq8) hP (hDD _ _ _ _ _ _ _ _ _ _ _ _ _) hS hl.1 rfl cw_45 k_5_101 k_5_103 k_s_41 k_1_7 k_5_104 hv_Ck_isNew rfl rfl ⟨(Nat.le_of_ble_eq_true rfl), (Nat.le_of_ble_eq_true rfl)⟩ rfl (Nat.le_of_ble_eq_true rfl) ⟨Nat.zero_le _, Nat.zero_le _⟩ rfl d_Ck_inspectTypes_74 (fun H locs hP hS => ?_)
      refine lv_if_eq (tgt := 84) hx hb d_Ck_inspectTypes_77 (by decide) (fun c5 => ?_) (fun c5 => ?_)
      · replace h := o_tt c5 h
        refine lv_iconst (v := (0:Int32)) hx hb d_Ck_inspectTypes_84 (by decide) ?_
        exact w_Ck_inspectTypes_j85 hE C hDD n u49_x1 u49_T0 u49_Sj u49_T1 u49_Rd u49_Pg u49_Pt u49_Mk u49_Lk u49_Jd u49_Ld u49_Pr u49_rt z.1 z.2.1 (0:Int32) z.2.2 h h0 h1 _ _ _ hP hS (lv_sub hl [0, 1, 2, 3] rfl)
      · replace h := o_ff c5 h
        refine lv_iconst (v := (1:Int32)) hx hb d_Ck_inspectTypes_80 (by decide) ?_
        refine lv_goto (tgt := 85) hx hb d_Ck_inspectTypes_81 (by decide) ?_
        exact w_Ck_inspectTypes_j85 hE C hDD n u49_x1 u49_T0 u49_Sj u49_T1 u49_Rd u49_Pg u49_Pt u49_Mk u49_Lk u49_Jd u49_Ld u49_Pr u49_rt z.1 z.2.1 (1:Int32) z.2.2 h h0 h1 _ _ _ hP hS (lv_sub hl [0, 1, 2, 3] rfl)
set_option maxHeartbeats 4000000 in
set_option maxRecDepth 100000 in
theorem w_Ck_inspectTypes_j33 {E : (Nat → Prop) → State → Heap → Prop} {p : Program} {l : Launch} {e : Env} {s : State} {m : MethodId} {args : Array Value} {below : List Frame} {meth : Method} {c : Code} {D : va_G} {ad kd sd vd xd : Nat → Nat} {ca : Nat → ClassId} {A : Nat → Prop} (hE : o_EK E kd sd vd xd) (C : o_Cx E p s m args meth c D o_cls (o_tys ca) "SchemaJudge$Checker" b_Ck_inspectTypes none 5 cc_Ck_inspectTypes A) (hDD : ∀ (rt : Nat) (Sj : SSJ) (T0 : STx) (T1 : STx) (Rd : SRd) (Pg : SPg) (Pt : SPt) (Mk : SMk) (Lk : SLk) (Ck : SCk) (Jd : SJd) (Ld : SLd) (Pr : SPr), va_D A (o_cw ad ca rt Sj T0 T1 Rd Pg Pt Mk Lk Ck Jd Ld Pr)) (n : Nat) (x1 : Int32) (y1 : Int32) (T0 : STx) (Ck : SCk) (Sj : SSJ) (T1 : STx) (Rd : SRd) (Pg : SPg) (Pt : SPt) (Mk : SMk) (Lk : SLk) (Jd : SJd) (Ld : SLd) (Pr : SPr) (rt : Nat) {r : SCk} (h : m_Ck_inspectTypes_j33 n x1 y1 T0 Ck = some r) : o_At p l e rm_Ck_inspectTypes s m args below meth c (MQ below (o_Qx D o_cls none (o_cw ad ca rt Sj T0 T1 Rd Pg Pt Mk Lk r Jd Ld Pr) A) args s 0 0 A) o_cls D A 5 33 [.int y1, .ref (ad 45)] (o_cw ad ca rt Sj T0 T1 Rd Pg Pt Mk Lk Ck Jd Ld Pr) [(0, .ref (ad 45)), (1, .int x1)] := by
  unfold m_Ck_inspectTypes_j33 at h
  intro H locs ls hP hS hl
  have C0 := C
  obtain ⟨hx, hb, -, -, -, hown, hts, hK, -, -⟩ := C0
  refine lv_iload_n hx hb d_Ck_inspectTypes_33 rfl (lv_at hl 1 rfl) ?_
  obtain ⟨q2, hq2, h⟩ := o_bd_some h
  refine o_V (st1 := []) (w1 := (o_cw ad ca rt Sj T0 T1 Rd Pg Pt Mk Lk q2 Jd Ld Pr)) hE.1 C (c_Ck_require hE l y1 x1 Ck Sj T0 T1 Rd Pg Pt Mk Lk Jd Ld Pr rt hq2) hP (hDD _ _ _ _ _ _ _ _ _ _ _ _ _) hS hl.1 rfl cw_45 k_4_53 k_4_55 k_s_19 k_1_7 k_4_56 hv_Ck_require rfl rfl ⟨(Nat.le_of_ble_eq_true rfl), (Nat.le_of_ble_eq_true rfl)⟩ rfl (Nat.le_of_ble_eq_true rfl) ⟨Nat.zero_le _, Nat.zero_le _⟩ rfl d_Ck_inspectTypes_34 (fun H locs hP hS => ?_)
  refine lv_aload_n hx hb d_Ck_inspectTypes_37 rfl (lv_at hl 0 rfl) ?_
  refine o_get (v := .ref (ad 1)) C in_Ck hP 45 cw_45 rfl 0 (by decide) k_2_7 rfl rfl d_Ck_inspectTypes_38 ?_
  refine lv_iload_n hx hb d_Ck_inspectTypes_41 rfl (lv_at hl 1 rfl) ?_
  obtain ⟨q3, hq3, h⟩ := o_bd_some h
  refine o_V (st1 := [.int q3]) (w1 := (o_cw ad ca rt Sj T0 T1 Rd Pg Pt Mk Lk q2 Jd Ld Pr)) hE.1 C (c_Tx_firstChild_0 hE l x1 T0 Sj T1 Rd Pg Pt Mk Lk q2 Jd Ld Pr rt hq3) hP (hDD _ _ _ _ _ _ _ _ _ _ _ _ _) hS hl.1 rfl cw_1 k_4_70 k_3_211 k_3_212 k_1_2 k_3_213 hv_Tx_firstChild rfl rfl ⟨(Nat.le_of_ble_eq_true rfl), (Nat.le_of_ble_eq_true rfl)⟩ rfl (Nat.le_of_ble_eq_true rfl) ⟨Nat.zero_le _, Nat.zero_le _⟩ rfl d_Ck_inspectTypes_42 (fun H locs hP hS => ?_)
  refine lv_istore_n (lv' := [(3, .int q3), (0, .ref (ad 45)), (1, .int x1)]) hx hb d_Ck_inspectTypes_45 rfl hl (by decide) rfl (fun ls hl => ?_)
  refine lv_iconst (v := (0:Int32)) hx hb d_Ck_inspectTypes_46 (by decide) ?_
  refine lv_istore (lv' := [(4, .int (0:Int32)), (3, .int q3), (0, .ref (ad 45)), (1, .int x1)]) hx hb d_Ck_inspectTypes_47 hl (by decide) rfl (fun ls hl => ?_)
  obtain ⟨q9, hq9, h⟩ := o_bd_some h
  refine o_sim2 (AH := fun zz => o_At p l e rm_Ck_inspectTypes s m args below meth c _ o_cls D A 5 49 [] (o_cw ad ca rt Sj T0 T1 Rd Pg Pt Mk Lk zz.2.2 Jd Ld Pr) [(0, .ref (ad 45)), (1, .int x1), (3, .int zz.1), (4, .int zz.2.1)]) (AX := fun qq => o_At p l e rm_Ck_inspectTypes s m args below meth c _ o_cls D A 5 104 [] (o_cw ad ca rt Sj T0 T1 Rd Pg Pt Mk Lk qq.2.2.2 Jd Ld Pr) []) (fun zz qq h h0 h1 => w_Ck_inspectTypes_b49 hE C hDD n x1 T0 Sj T1 Rd Pg Pt Mk Lk Jd Ld Pr rt zz qq h h0 h1) n _ q9 hq9 ?_ _ _ _ hP hS (lv_sub hl [2, 3, 1, 0] rfl)
  intro H locs ls hP hS hl
  cases h
  exact o_rv C hP hS d_Ck_inspectTypes_104
set_option maxHeartbeats 4000000 in
set_option maxRecDepth 100000 in
theorem c_Ck_inspectTypes {E : (Nat → Prop) → State → Heap → Prop} {D : va_G} {ad kd sd vd xd : Nat → Nat} {ca : Nat → ClassId} (hE : o_EK E kd sd vd xd) (l : Launch) (n : Nat) (x1 : Int32) (x2 : Int32) (T0 : STx) (Ck : SCk) (Sj : SSJ) (T1 : STx) (Rd : SRd) (Pg : SPg) (Pt : SPt) (Mk : SMk) (Lk : SLk) (Jd : SJd) (Ld : SLd) (Pr : SPr) (rt : Nat) {r : SCk} (h : m_Ck_inspectTypes n x1 x2 T0 Ck = some r) : o_Cn E l D o_cls (o_tys ca) y_Ck_inspectTypes cc_Ck_inspectTypes rm_Ck_inspectTypes [.ref (ad 45), .int x1, .int x2] (o_cw ad ca rt Sj T0 T1 Rd Pg Pt Mk Lk Ck Jd Ld Pr) (o_cw ad ca rt Sj T0 T1 Rd Pg Pt Mk Lk r Jd Ld Pr) none := by
  refine o_Cn_of (by decide) (Nat.le_of_ble_eq_true rfl) ?_
  intro p e s m below meth c A ls C hD hP hS hl
  have hDD : ∀ (rt : Nat) (Sj : SSJ) (T0 : STx) (T1 : STx) (Rd : SRd) (Pg : SPg) (Pt : SPt) (Mk : SMk) (Lk : SLk) (Ck : SCk) (Jd : SJd) (Ld : SLd) (Pr : SPr), va_D A (o_cw ad ca rt Sj T0 T1 Rd Pg Pt Mk Lk Ck Jd Ld Pr) := fun _ _ _ _ _ _ _ _ _ _ _ _ _ => o_D_map hD rfl
  have hl : lv_has ls 5 [(0, .ref (ad 45)), (1, .int x1), (2, .int x2)] := hl
  unfold m_Ck_inspectTypes at h
  have C0 := C
  obtain ⟨hx, hb, -, -, -, hown, hts, hK, -, -⟩ := C0
  refine lv_iload_n hx hb d_Ck_inspectTypes_0 rfl (lv_at hl 2 rfl) ?_
  refine lv_iconst (v := (5:Int32)) hx hb d_Ck_inspectTypes_1 (by decide) ?_
  refine lv_icmp_eq (tgt := 16) hx hb d_Ck_inspectTypes_2 (by decide) (fun c1 => ?_) (fun c1 => ?_)
  · replace h := o_tt c1 h
    refine lv_aload_n hx hb d_Ck_inspectTypes_16 rfl (lv_at hl 0 rfl) ?_
    refine lv_aload_n hx hb d_Ck_inspectTypes_17 rfl (lv_at hl 0 rfl) ?_
    refine o_get (v := .ref (ad 1)) C in_Ck hP 45 cw_45 rfl 0 (by decide) k_2_7 rfl rfl d_Ck_inspectTypes_18 ?_
    refine lv_iload_n hx hb d_Ck_inspectTypes_21 rfl (lv_at hl 1 rfl) ?_
    obtain ⟨q1, hq1, h⟩ := o_bd_some h
    refine o_V (st1 := [.int q1, .ref (ad 45)]) (w1 := (o_cw ad ca rt Sj T0 T1 Rd Pg Pt Mk Lk Ck Jd Ld Pr)) hE.1 C (c_Tx_size_0 hE l x1 T0 Sj T1 Rd Pg Pt Mk Lk Ck Jd Ld Pr rt hq1) hP (hDD _ _ _ _ _ _ _ _ _ _ _ _ _) hS hl.1 rfl cw_1 k_4_71 k_3_215 k_3_216 k_1_2 k_3_217 hv_Tx_size rfl rfl ⟨(Nat.le_of_ble_eq_true rfl), (Nat.le_of_ble_eq_true rfl)⟩ rfl (Nat.le_of_ble_eq_true rfl) ⟨Nat.zero_le _, Nat.zero_le _⟩ rfl d_Ck_inspectTypes_22 (fun H locs hP hS => ?_)
    refine lv_if_le (tgt := 32) hx hb d_Ck_inspectTypes_25 (by decide) (fun c2 => ?_) (fun c2 => ?_)
    · replace h := o_tt c2 h
      refine lv_iconst (v := (0:Int32)) hx hb d_Ck_inspectTypes_32 (by decide) ?_
      exact w_Ck_inspectTypes_j33 hE C hDD n x1 (0:Int32) T0 Ck Sj T1 Rd Pg Pt Mk Lk Jd Ld Pr rt h _ _ _ hP hS (lv_sub hl [0, 1] rfl)
    · replace h := o_ff c2 h
      refine lv_iconst (v := (1:Int32)) hx hb d_Ck_inspectTypes_28 (by decide) ?_
      refine lv_goto (tgt := 33) hx hb d_Ck_inspectTypes_29 (by decide) ?_
      exact w_Ck_inspectTypes_j33 hE C hDD n x1 (1:Int32) T0 Ck Sj T1 Rd Pg Pt Mk Lk Jd Ld Pr rt h _ _ _ hP hS (lv_sub hl [0, 1] rfl)
  · replace h := o_ff c1 h
    refine lv_aload_n hx hb d_Ck_inspectTypes_5 rfl (lv_at hl 0 rfl) ?_
    refine lv_aload_n hx hb d_Ck_inspectTypes_6 rfl (lv_at hl 0 rfl) ?_
    refine lv_iload_n hx hb d_Ck_inspectTypes_7 rfl (lv_at hl 1 rfl) ?_
    obtain ⟨q10, hq10, h⟩ := o_bd_some h
    refine o_V (st1 := [.int q10, .ref (ad 45)]) (w1 := (o_cw ad ca rt Sj T0 T1 Rd Pg Pt Mk Lk Ck Jd Ld Pr)) hE.1 C (c_Ck_isType hE l n x1 T0 Sj T1 Rd Pg Pt Mk Lk Ck Jd Ld Pr rt hq10) hP (hDD _ _ _ _ _ _ _ _ _ _ _ _ _) hS hl.1 rfl cw_45 k_5_89 k_5_91 k_s_40 k_1_7 k_5_92 hv_Ck_isType rfl rfl ⟨(Nat.le_of_ble_eq_true rfl), (Nat.le_of_ble_eq_true rfl)⟩ rfl (Nat.le_of_ble_eq_true rfl) ⟨Nat.zero_le _, Nat.zero_le _⟩ rfl d_Ck_inspectTypes_8 (fun H locs hP hS => ?_)
    refine lv_iload_n hx hb d_Ck_inspectTypes_11 rfl (lv_at hl 1 rfl) ?_
    obtain ⟨q11, hq11, h⟩ := o_bd_some h
    refine o_V (st1 := []) (w1 := (o_cw ad ca rt Sj T0 T1 Rd Pg Pt Mk Lk q11 Jd Ld Pr)) hE.1 C (c_Ck_require hE l q10 x1 Ck Sj T0 T1 Rd Pg Pt Mk Lk Jd Ld Pr rt hq11) hP (hDD _ _ _ _ _ _ _ _ _ _ _ _ _) hS hl.1 rfl cw_45 k_4_53 k_4_55 k_s_19 k_1_7 k_4_56 hv_Ck_require rfl rfl ⟨(Nat.le_of_ble_eq_true rfl), (Nat.le_of_ble_eq_true rfl)⟩ rfl (Nat.le_of_ble_eq_true rfl) ⟨Nat.zero_le _, Nat.zero_le _⟩ rfl d_Ck_inspectTypes_12 (fun H locs hP hS => ?_)
    cases h
    exact o_rv C hP hS d_Ck_inspectTypes_15
set_option maxHeartbeats 4000000 in
set_option maxRecDepth 100000 in
theorem w_Ck_inspectNames_j89 {E : (Nat → Prop) → State → Heap → Prop} {p : Program} {l : Launch} {e : Env} {s : State} {m : MethodId} {args : Array Value} {below : List Frame} {meth : Method} {c : Code} {D : va_G} {ad kd sd vd xd : Nat → Nat} {ca : Nat → ClassId} {A : Nat → Prop} {Q : State → Prop} (hE : o_EK E kd sd vd xd) (C : o_Cx E p s m args meth c D o_cls (o_tys ca) "SchemaJudge$Checker" b_Ck_inspectNames none 5 cc_Ck_inspectNames A) (hDD : ∀ (rt : Nat) (Sj : SSJ) (T0 : STx) (T1 : STx) (Rd : SRd) (Pg : SPg) (Pt : SPt) (Mk : SMk) (Lk : SLk) (Ck : SCk) (Jd : SJd) (Ld : SLd) (Pr : SPr), va_D A (o_cw ad ca rt Sj T0 T1 Rd Pg Pt Mk Lk Ck Jd Ld Pr)) (n : Nat) (u44_x1 : Int32) (u44_T0 : STx) (u44_Sj : SSJ) (u44_T1 : STx) (u44_Rd : SRd) (u44_Pg : SPg) (u44_Pt : SPt) (u44_Mk : SMk) (u44_Lk : SLk) (u44_Jd : SJd) (u44_Ld : SLd) (u44_Pr : SPr) (u44_rt : Nat) (x3 : Int32) (x4 : Int32) (y1 : Int32) (Ck : SCk) {q : Nat × Int32 × Int32 × SCk} (h : m_Ck_inspectNames_j89 n u44_x1 x3 x4 y1 u44_T0 Ck = some q) (h0 : q.1 = 0 → o_At p l e rm_Ck_inspectNames s m args below meth c Q o_cls D A 5 44 [] (o_cw ad ca u44_rt u44_Sj u44_T0 u44_T1 u44_Rd u44_Pg u44_Pt u44_Mk u44_Lk q.2.2.2 u44_Jd u44_Ld u44_Pr) [(0, .ref (ad 45)), (1, .int u44_x1), (3, .int q.2.1), (4, .int q.2.2.1)]) (h1 : q.1 ≠ 0 → (o_At p l e rm_Ck_inspectNames s m args below meth c Q o_cls D A 5 108 [] (o_cw ad ca u44_rt u44_Sj u44_T0 u44_T1 u44_Rd u44_Pg u44_Pt u44_Mk u44_Lk q.2.2.2 u44_Jd u44_Ld u44_Pr) [])) : o_At p l e rm_Ck_inspectNames s m args below meth c Q o_cls D A 5 89 [.int y1, .ref (ad 45)] (o_cw ad ca u44_rt u44_Sj u44_T0 u44_T1 u44_Rd u44_Pg u44_Pt u44_Mk u44_Lk Ck u44_Jd u44_Ld u44_Pr) [(0, .ref (ad 45)), (1, .int u44_x1), (3, .int x3), (4, .int x4)] := by
  unfold m_Ck_inspectNames_j89 at h
  intro H locs ls hP hS hl
  have C0 := C
  obtain ⟨hx, hb, -, -, -, hown, hts, hK, -, -⟩ := C0
  refine lv_iload_n hx hb d_Ck_inspectNames_89 rfl (lv_at hl 2 rfl) ?_
  obtain ⟨q5, hq5, h⟩ := o_bd_some h
  refine o_V (st1 := []) (w1 := (o_cw ad ca u44_rt u44_Sj u44_T0 u44_T1 u44_Rd u44_Pg u44_Pt u44_Mk u44_Lk q5 u44_Jd u44_Ld u44_Pr)) hE.1 C (c_Ck_require hE l y1 x3 Ck u44_Sj u44_T0 u44_T1 u44_Rd u44_Pg u44_Pt u44_Mk u44_Lk u44_Jd u44_Ld u44_Pr u44_rt hq5) hP (hDD _ _ _ _ _ _ _ _ _ _ _ _ _) hS hl.1 rfl cw_45 k_4_53 k_4_55 k_s_19 k_1_7 k_4_56 hv_Ck_require rfl rfl ⟨(Nat.le_of_ble_eq_true rfl), (Nat.le_of_ble_eq_true rfl)⟩ rfl (Nat.le_of_ble_eq_true rfl) ⟨Nat.zero_le _, Nat.zero_le _⟩ rfl d_Ck_inspectNames_90 (fun H locs hP hS => ?_)
  refine lv_aload_n hx hb d_Ck_inspectNames_93 rfl (lv_at hl 0 rfl) ?_
  refine o_get (v := .ref (ad 1)) C in_Ck hP 45 cw_45 rfl 0 (by decide) k_2_7 rfl rfl d_Ck_inspectNames_94 ?_
  refine lv_iload_n hx hb d_Ck_inspectNames_97 rfl (lv_at hl 2 rfl) ?_
  obtain ⟨q6, hq6, h⟩ := o_bd_some h
  refine o_V (st1 := [.int q6]) (w1 := (o_cw ad ca u44_rt u44_Sj u44_T0 u44_T1 u44_Rd u44_Pg u44_Pt u44_Mk u44_Lk q5 u44_Jd u44_Ld u44_Pr)) hE.1 C (c_Tx_nextChild_0 hE l x3 u44_T0 u44_Sj u44_T1 u44_Rd u44_Pg u44_Pt u44_Mk u44_Lk q5 u44_Jd u44_Ld u44_Pr u44_rt hq6) hP (hDD _ _ _ _ _ _ _ _ _ _ _ _ _) hS hl.1 rfl cw_1 k_4_101 k_3_222 k_3_223 k_1_2 k_3_224 hv_Tx_nextChild rfl rfl ⟨(Nat.le_of_ble_eq_true rfl), (Nat.le_of_ble_eq_true rfl)⟩ rfl (Nat.le_of_ble_eq_true rfl) ⟨Nat.zero_le _, Nat.zero_le _⟩ rfl d_Ck_inspectNames_98 (fun H locs hP hS => ?_)
  refine lv_istore_n (lv' := [(3, .int q6), (0, .ref (ad 45)), (1, .int u44_x1), (4, .int x4)]) hx hb d_Ck_inspectNames_101 rfl hl (by decide) rfl (fun ls hl => ?_)
  obtain ⟨x4_102, ex4_102⟩ : ∃ y : Int32, y = x4 + (1:Int32) := ⟨_, rfl⟩
  replace h := o_nm_at ex4_102 h
  refine lv_iinc (v := x4_102) (lv' := [(4, .int x4_102), (3, .int q6), (0, .ref (ad 45)), (1, .int u44_x1)]) hx hb d_Ck_inspectNames_102 hl (k := 3) rfl (by rw [ex4_102]; rfl) (by decide) rfl (fun ls hl => ?_)
  refine lv_goto (tgt := 44) hx hb d_Ck_inspectNames_105 (by decide) ?_
  cases h
  exact h0 rfl _ _ _ hP hS (lv_sub hl [2, 3, 1, 0] rfl)
set_option maxHeartbeats 4000000 in
set_option maxRecDepth 100000 in
theorem w_Ck_inspectNames_b44 {E : (Nat → Prop) → State → Heap → Prop} {p : Program} {l : Launch} {e : Env} {s : State} {m : MethodId} {args : Array Value} {below : List Frame} {meth : Method} {c : Code} {D : va_G} {ad kd sd vd xd : Nat → Nat} {ca : Nat → ClassId} {A : Nat → Prop} {Q : State → Prop} (hE : o_EK E kd sd vd xd) (C : o_Cx E p s m args meth c D o_cls (o_tys ca) "SchemaJudge$Checker" b_Ck_inspectNames none 5 cc_Ck_inspectNames A) (hDD : ∀ (rt : Nat) (Sj : SSJ) (T0 : STx) (T1 : STx) (Rd : SRd) (Pg : SPg) (Pt : SPt) (Mk : SMk) (Lk : SLk) (Ck : SCk) (Jd : SJd) (Ld : SLd) (Pr : SPr), va_D A (o_cw ad ca rt Sj T0 T1 Rd Pg Pt Mk Lk Ck Jd Ld Pr)) (n : Nat) (u44_x1 : Int32) (u44_T0 : STx) (u44_Sj : SSJ) (u44_T1 : STx) (u44_Rd : SRd) (u44_Pg : SPg) (u44_Pt : SPt) (u44_Mk : SMk) (u44_Lk : SLk) (u44_Jd : SJd) (u44_Ld : SLd) (u44_Pr : SPr) (u44_rt : Nat) (z : Int32 × Int32 × SCk) (q : Nat × Int32 × Int32 × SCk) (h : m_Ck_inspectNames_b44 n u44_x1 u44_T0 z = some q) (h0 : q.1 = 0 → o_At p l e rm_Ck_inspectNames s m args below meth c Q o_cls D A 5 44 [] (o_cw ad ca u44_rt u44_Sj u44_T0 u44_T1 u44_Rd u44_Pg u44_Pt u44_Mk u44_Lk q.2.2.2 u44_Jd u44_Ld u44_Pr) [(0, .ref (ad 45)), (1, .int u44_x1), (3, .int q.2.1), (4, .int q.2.2.1)]) (h1 : q.1 ≠ 0 → (o_At p l e rm_Ck_inspectNames s m args below meth c Q o_cls D A 5 108 [] (o_cw ad ca u44_rt u44_Sj u44_T0 u44_T1 u44_Rd u44_Pg u44_Pt u44_Mk u44_Lk q.2.2.2 u44_Jd u44_Ld u44_Pr) [])) : o_At p l e rm_Ck_inspectNames s m args below meth c Q o_cls D A 5 44 [] (o_cw ad ca u44_rt u44_Sj u44_T0 u44_T1 u44_Rd u44_Pg u44_Pt u44_Mk u44_Lk z.2.2 u44_Jd u44_Ld u44_Pr) [(0, .ref (ad 45)), (1, .int u44_x1), (3, .int z.1), (4, .int z.2.1)] := by
  unfold m_Ck_inspectNames_b44 at h
  intro H locs ls hP hS hl
  have C0 := C
  obtain ⟨hx, hb, -, -, -, hown, hts, hK, -, -⟩ := C0
  refine lv_iload hx hb d_Ck_inspectNames_44 (lv_at hl 3 rfl) ?_
  refine lv_aload_n hx hb d_Ck_inspectNames_46 rfl (lv_at hl 0 rfl) ?_
  refine o_get (v := .ref (ad 1)) C in_Ck hP 45 cw_45 rfl 0 (by decide) k_2_7 rfl rfl d_Ck_inspectNames_47 ?_
  refine lv_iload_n hx hb d_Ck_inspectNames_50 rfl (lv_at hl 1 rfl) ?_
  obtain ⟨q3, hq3, h⟩ := o_bd_some h
  refine o_V (st1 := [.int q3, .int z.2.1]) (w1 := (o_cw ad ca u44_rt u44_Sj u44_T0 u44_T1 u44_Rd u44_Pg u44_Pt u44_Mk u44_Lk z.2.2 u44_Jd u44_Ld u44_Pr)) hE.1 C (c_Tx_size_0 hE l u44_x1 u44_T0 u44_Sj u44_T1 u44_Rd u44_Pg u44_Pt u44_Mk u44_Lk z.2.2 u44_Jd u44_Ld u44_Pr u44_rt hq3) hP (hDD _ _ _ _ _ _ _ _ _ _ _ _ _) hS hl.1 rfl cw_1 k_4_71 k_3_215 k_3_216 k_1_2 k_3_217 hv_Tx_size rfl rfl ⟨(Nat.le_of_ble_eq_true rfl), (Nat.le_of_ble_eq_true rfl)⟩ rfl (Nat.le_of_ble_eq_true rfl) ⟨Nat.zero_le _, Nat.zero_le _⟩ rfl d_Ck_inspectNames_51 (fun H locs hP hS => ?_)
  refine lv_icmp_ge (tgt := 108) hx hb d_Ck_inspectNames_54 (by decide) (fun c3 => ?_) (fun c3 => ?_)
  · replace h := o_tt c3 h
    cases h
    exact h1 (Nat.succ_ne_zero 0) _ _ _ hP hS (lv_sub hl [] rfl)
  · replace h := o_ff c3 h
    refine lv_iload_n hx hb d_Ck_inspectNames_57 rfl (lv_at hl 2 rfl) ?_
    refine lv_iconst (v := (-1:Int32)) hx hb d_Ck_inspectNames_58 (by decide) ?_
    refine lv_icmp_eq (tgt := 108) hx hb d_Ck_inspectNames_59 (by decide) (fun c4 => ?_) (fun c4 => ?_)
    · replace h := o_tt c4 h
      cases h
      exact h1 (Nat.succ_ne_zero 0) _ _ _ hP hS (lv_sub hl [] rfl)
    · replace h := o_ff c4 h
      refine lv_aload_n hx hb d_Ck_inspectNames_62 rfl (lv_at hl 0 rfl) ?_
      refine lv_aload_n hx hb d_Ck_inspectNames_63 rfl (lv_at hl 0 rfl) ?_
      refine o_get (v := .ref (ad 1)) C in_Ck hP 45 cw_45 rfl 0 (by decide) k_2_7 rfl rfl d_Ck_inspectNames_64 ?_
      refine lv_iload_n hx hb d_Ck_inspectNames_67 rfl (lv_at hl 2 rfl) ?_
      obtain ⟨q4, hq4, h⟩ := o_bd_some h
      refine o_V (st1 := [.int q4, .ref (ad 45)]) (w1 := (o_cw ad ca u44_rt u44_Sj u44_T0 u44_T1 u44_Rd u44_Pg u44_Pt u44_Mk u44_Lk z.2.2 u44_Jd u44_Ld u44_Pr)) hE.1 C (c_Tx_kind_0 hE l z.1 u44_T0 u44_Sj u44_T1 u44_Rd u44_Pg u44_Pt u44_Mk u44_Lk z.2.2 u44_Jd u44_Ld u44_Pr u44_rt hq4) hP (hDD _ _ _ _ _ _ _ _ _ _ _ _ _) hS hl.1 rfl cw_1 k_4_96 k_4_50 k_4_51 k_1_2 k_4_52 hv_Tx_kind rfl rfl ⟨(Nat.le_of_ble_eq_true rfl), (Nat.le_of_ble_eq_true rfl)⟩ rfl (Nat.le_of_ble_eq_true rfl) ⟨Nat.zero_le _, Nat.zero_le _⟩ rfl d_Ck_inspectNames_68 (fun H locs hP hS => ?_)
      refine lv_iconst (v := (4:Int32)) hx hb d_Ck_inspectNames_71 (by decide) ?_
      refine lv_icmp_ne (tgt := 88) hx hb d_Ck_inspectNames_72 (by decide) (fun c5 => ?_) (fun c5 => ?_)
      · replace h := o_ff c5 h
        refine lv_iconst (v := (0:Int32)) hx hb d_Ck_inspectNames_88 (by decide) ?_
        exact w_Ck_inspectNames_j89 hE C hDD n u44_x1 u44_T0 u44_Sj u44_T1 u44_Rd u44_Pg u44_Pt u44_Mk u44_Lk u44_Jd u44_Ld u44_Pr u44_rt z.1 z.2.1 (0:Int32) z.2.2 h h0 h1 _ _ _ hP hS (lv_sub hl [0, 1, 2, 3] rfl)
      · replace h := o_tt c5 h
        refine lv_aload_n hx hb d_Ck_inspectNames_75 rfl (lv_at hl 0 rfl) ?_
        refine lv_iload_n hx hb d_Ck_inspectNames_76 rfl (lv_at hl 1 rfl) ?_
        refine lv_iload_n hx hb d_Ck_inspectNames_77 rfl (lv_at hl 2 rfl) ?_
        obtain ⟨q7, hq7, h⟩ := o_bd_some h
        refine o_V (st1 := [.int q7, .ref (ad 45)]) (w1 := (o_cw ad ca u44_rt u44_Sj u44_T0 u44_T1 u44_Rd u44_Pg u44_Pt u44_Mk u44_Lk z.2.2 u44_Jd u44_Ld u44_Pr)) hE.1 C (c_Ck_isNew hE l n u44_x1 z.1 u44_T0 u44_Sj u44_T1 u44_Rd u44_Pg u44_Pt u44_Mk u44_Lk z.2.2 u44_Jd u44_Ld u44_Pr u44_rt hq7) hP (hDD _ _ _ _ _ _ _ _ _ _ _ _ _) hS hl.1 rfl cw_45 k_5_101 k_5_103 k_s_41 k_1_7 k_5_104 hv_Ck_isNew rfl rfl ⟨(Nat.le_of_ble_eq_true rfl), (Nat.le_of_ble_eq_true rfl)⟩ rfl (Nat.le_of_ble_eq_true rfl) ⟨Nat.zero_le _, Nat.zero_le _⟩ rfl d_Ck_inspectNames_78 (fun H locs hP hS => ?_)
        refine lv_if_eq (tgt := 88) hx hb d_Ck_inspectNames_81 (by decide) (fun c6 => ?_) (fun c6 => ?_)
        · replace h := o_tt c6 h
          refine lv_iconst (v := (0:Int32)) hx hb d_Ck_inspectNames_88 (by decide) ?_
          exact w_Ck_inspectNames_j89 hE C hDD n u44_x1 u44_T0 u44_Sj u44_T1 u44_Rd u44_Pg u44_Pt u44_Mk u44_Lk u44_Jd u44_Ld u44_Pr u44_rt z.1 z.2.1 (0:Int32) z.2.2 h h0 h1 _ _ _ hP hS (lv_sub hl [0, 1, 2, 3] rfl)
        · replace h := o_ff c6 h
          refine lv_iconst (v := (1:Int32)) hx hb d_Ck_inspectNames_84 (by decide) ?_
          refine lv_goto (tgt := 89) hx hb d_Ck_inspectNames_85 (by decide) ?_
          exact w_Ck_inspectNames_j89 hE C hDD n u44_x1 u44_T0 u44_Sj u44_T1 u44_Rd u44_Pg u44_Pt u44_Mk u44_Lk u44_Jd u44_Ld u44_Pr u44_rt z.1 z.2.1 (1:Int32) z.2.2 h h0 h1 _ _ _ hP hS (lv_sub hl [0, 1, 2, 3] rfl)
set_option maxHeartbeats 4000000 in
set_option maxRecDepth 100000 in
theorem w_Ck_inspectNames_j17 {E : (Nat → Prop) → State → Heap → Prop} {p : Program} {l : Launch} {e : Env} {s : State} {m : MethodId} {args : Array Value} {below : List Frame} {meth : Method} {c : Code} {D : va_G} {ad kd sd vd xd : Nat → Nat} {ca : Nat → ClassId} {A : Nat → Prop} (hE : o_EK E kd sd vd xd) (C : o_Cx E p s m args meth c D o_cls (o_tys ca) "SchemaJudge$Checker" b_Ck_inspectNames none 5 cc_Ck_inspectNames A) (hDD : ∀ (rt : Nat) (Sj : SSJ) (T0 : STx) (T1 : STx) (Rd : SRd) (Pg : SPg) (Pt : SPt) (Mk : SMk) (Lk : SLk) (Ck : SCk) (Jd : SJd) (Ld : SLd) (Pr : SPr), va_D A (o_cw ad ca rt Sj T0 T1 Rd Pg Pt Mk Lk Ck Jd Ld Pr)) (n : Nat) (x1 : Int32) (y0 : Int32) (T0 : STx) (Ck : SCk) (Sj : SSJ) (T1 : STx) (Rd : SRd) (Pg : SPg) (Pt : SPt) (Mk : SMk) (Lk : SLk) (Jd : SJd) (Ld : SLd) (Pr : SPr) (rt : Nat) {r : SCk} (h : m_Ck_inspectNames_j17 n x1 y0 T0 Ck = some r) : o_At p l e rm_Ck_inspectNames s m args below meth c (MQ below (o_Qx D o_cls none (o_cw ad ca rt Sj T0 T1 Rd Pg Pt Mk Lk r Jd Ld Pr) A) args s 0 0 A) o_cls D A 5 17 [.int y0] (o_cw ad ca rt Sj T0 T1 Rd Pg Pt Mk Lk Ck Jd Ld Pr) [(0, .ref (ad 45)), (1, .int x1)] := by
  unfold m_Ck_inspectNames_j17 at h
  intro H locs ls hP hS hl
  have C0 := C
  obtain ⟨hx, hb, -, -, -, hown, hts, hK, -, -⟩ := C0
  refine lv_istore_n (lv' := [(2, .int y0), (0, .ref (ad 45)), (1, .int x1)]) hx hb d_Ck_inspectNames_17 rfl hl (by decide) rfl (fun ls hl => ?_)
  refine lv_aload_n hx hb d_Ck_inspectNames_18 rfl (lv_at hl 1 rfl) ?_
  refine lv_iload_n hx hb d_Ck_inspectNames_19 rfl (lv_at hl 0 rfl) ?_
  refine lv_iload_n hx hb d_Ck_inspectNames_20 rfl (lv_at hl 2 rfl) ?_
  obtain ⟨q2, hq2, h⟩ := o_bd_some h
  refine o_V (st1 := []) (w1 := (o_cw ad ca rt Sj T0 T1 Rd Pg Pt Mk Lk q2 Jd Ld Pr)) hE.1 C (c_Ck_require hE l y0 x1 Ck Sj T0 T1 Rd Pg Pt Mk Lk Jd Ld Pr rt hq2) hP (hDD _ _ _ _ _ _ _ _ _ _ _ _ _) hS hl.1 rfl cw_45 k_4_53 k_4_55 k_s_19 k_1_7 k_4_56 hv_Ck_require rfl rfl ⟨(Nat.le_of_ble_eq_true rfl), (Nat.le_of_ble_eq_true rfl)⟩ rfl (Nat.le_of_ble_eq_true rfl) ⟨Nat.zero_le _, Nat.zero_le _⟩ rfl d_Ck_inspectNames_21 (fun H locs hP hS => ?_)
  refine lv_iload_n hx hb d_Ck_inspectNames_24 rfl (lv_at hl 0 rfl) ?_
  refine lv_if_eq (tgt := 39) hx hb d_Ck_inspectNames_25 (by decide) (fun c2 => ?_) (fun c2 => ?_)
  · replace h := o_tt c2 h
    refine lv_iconst (v := (-1:Int32)) hx hb d_Ck_inspectNames_39 (by decide) ?_
    refine lv_istore_n (lv' := [(3, .int (-1:Int32)), (2, .int y0), (0, .ref (ad 45)), (1, .int x1)]) hx hb d_Ck_inspectNames_40 rfl hl (by decide) rfl (fun ls hl => ?_)
    refine lv_iconst (v := (0:Int32)) hx hb d_Ck_inspectNames_41 (by decide) ?_
    refine lv_istore (lv' := [(4, .int (0:Int32)), (3, .int (-1:Int32)), (2, .int y0), (0, .ref (ad 45)), (1, .int x1)]) hx hb d_Ck_inspectNames_42 hl (by decide) rfl (fun ls hl => ?_)
    obtain ⟨q8, hq8, h⟩ := o_bd_some h
    refine o_sim2 (AH := fun zz => o_At p l e rm_Ck_inspectNames s m args below meth c _ o_cls D A 5 44 [] (o_cw ad ca rt Sj T0 T1 Rd Pg Pt Mk Lk zz.2.2 Jd Ld Pr) [(0, .ref (ad 45)), (1, .int x1), (3, .int zz.1), (4, .int zz.2.1)]) (AX := fun qq => o_At p l e rm_Ck_inspectNames s m args below meth c _ o_cls D A 5 108 [] (o_cw ad ca rt Sj T0 T1 Rd Pg Pt Mk Lk qq.2.2.2 Jd Ld Pr) []) (fun zz qq h h0 h1 => w_Ck_inspectNames_b44 hE C hDD n x1 T0 Sj T1 Rd Pg Pt Mk Lk Jd Ld Pr rt zz qq h h0 h1) n _ q8 hq8 ?_ _ _ _ hP hS (lv_sub hl [3, 4, 1, 0] rfl)
    intro H locs ls hP hS hl
    cases h
    exact o_rv C hP hS d_Ck_inspectNames_108
  · replace h := o_ff c2 h
    refine lv_aload_n hx hb d_Ck_inspectNames_28 rfl (lv_at hl 1 rfl) ?_
    refine o_get (v := .ref (ad 1)) C in_Ck hP 45 cw_45 rfl 0 (by decide) k_2_7 rfl rfl d_Ck_inspectNames_29 ?_
    refine lv_iload_n hx hb d_Ck_inspectNames_32 rfl (lv_at hl 2 rfl) ?_
    obtain ⟨q9, hq9, h⟩ := o_bd_some h
    refine o_V (st1 := [.int q9]) (w1 := (o_cw ad ca rt Sj T0 T1 Rd Pg Pt Mk Lk q2 Jd Ld Pr)) hE.1 C (c_Tx_firstChild_0 hE l x1 T0 Sj T1 Rd Pg Pt Mk Lk q2 Jd Ld Pr rt hq9) hP (hDD _ _ _ _ _ _ _ _ _ _ _ _ _) hS hl.1 rfl cw_1 k_4_70 k_3_211 k_3_212 k_1_2 k_3_213 hv_Tx_firstChild rfl rfl ⟨(Nat.le_of_ble_eq_true rfl), (Nat.le_of_ble_eq_true rfl)⟩ rfl (Nat.le_of_ble_eq_true rfl) ⟨Nat.zero_le _, Nat.zero_le _⟩ rfl d_Ck_inspectNames_33 (fun H locs hP hS => ?_)
    refine lv_goto (tgt := 40) hx hb d_Ck_inspectNames_36 (by decide) ?_
    refine lv_istore_n (lv' := [(3, .int q9), (2, .int y0), (0, .ref (ad 45)), (1, .int x1)]) hx hb d_Ck_inspectNames_40 rfl hl (by decide) rfl (fun ls hl => ?_)
    refine lv_iconst (v := (0:Int32)) hx hb d_Ck_inspectNames_41 (by decide) ?_
    refine lv_istore (lv' := [(4, .int (0:Int32)), (3, .int q9), (2, .int y0), (0, .ref (ad 45)), (1, .int x1)]) hx hb d_Ck_inspectNames_42 hl (by decide) rfl (fun ls hl => ?_)
    obtain ⟨q10, hq10, h⟩ := o_bd_some h
    refine o_sim2 (AH := fun zz => o_At p l e rm_Ck_inspectNames s m args below meth c _ o_cls D A 5 44 [] (o_cw ad ca rt Sj T0 T1 Rd Pg Pt Mk Lk zz.2.2 Jd Ld Pr) [(0, .ref (ad 45)), (1, .int x1), (3, .int zz.1), (4, .int zz.2.1)]) (AX := fun qq => o_At p l e rm_Ck_inspectNames s m args below meth c _ o_cls D A 5 108 [] (o_cw ad ca rt Sj T0 T1 Rd Pg Pt Mk Lk qq.2.2.2 Jd Ld Pr) []) (fun zz qq h h0 h1 => w_Ck_inspectNames_b44 hE C hDD n x1 T0 Sj T1 Rd Pg Pt Mk Lk Jd Ld Pr rt zz qq h h0 h1) n _ q10 hq10 ?_ _ _ _ hP hS (lv_sub hl [3, 4, 1, 0] rfl)
    intro H locs ls hP hS hl
    cases h
    exact o_rv C hP hS d_Ck_inspectNames_108
set_option maxHeartbeats 4000000 in
set_option maxRecDepth 100000 in
theorem c_Ck_inspectNames {E : (Nat → Prop) → State → Heap → Prop} {D : va_G} {ad kd sd vd xd : Nat → Nat} {ca : Nat → ClassId} (hE : o_EK E kd sd vd xd) (l : Launch) (n : Nat) (x1 : Int32) (T0 : STx) (Ck : SCk) (Sj : SSJ) (T1 : STx) (Rd : SRd) (Pg : SPg) (Pt : SPt) (Mk : SMk) (Lk : SLk) (Jd : SJd) (Ld : SLd) (Pr : SPr) (rt : Nat) {r : SCk} (h : m_Ck_inspectNames n x1 T0 Ck = some r) : o_Cn E l D o_cls (o_tys ca) y_Ck_inspectNames cc_Ck_inspectNames rm_Ck_inspectNames [.ref (ad 45), .int x1] (o_cw ad ca rt Sj T0 T1 Rd Pg Pt Mk Lk Ck Jd Ld Pr) (o_cw ad ca rt Sj T0 T1 Rd Pg Pt Mk Lk r Jd Ld Pr) none := by
  refine o_Cn_of (by decide) (Nat.le_of_ble_eq_true rfl) ?_
  intro p e s m below meth c A ls C hD hP hS hl
  have hDD : ∀ (rt : Nat) (Sj : SSJ) (T0 : STx) (T1 : STx) (Rd : SRd) (Pg : SPg) (Pt : SPt) (Mk : SMk) (Lk : SLk) (Ck : SCk) (Jd : SJd) (Ld : SLd) (Pr : SPr), va_D A (o_cw ad ca rt Sj T0 T1 Rd Pg Pt Mk Lk Ck Jd Ld Pr) := fun _ _ _ _ _ _ _ _ _ _ _ _ _ => o_D_map hD rfl
  have hl : lv_has ls 5 [(0, .ref (ad 45)), (1, .int x1)] := hl
  unfold m_Ck_inspectNames at h
  have C0 := C
  obtain ⟨hx, hb, -, -, -, hown, hts, hK, -, -⟩ := C0
  refine lv_aload_n hx hb d_Ck_inspectNames_0 rfl (lv_at hl 0 rfl) ?_
  refine o_get (v := .ref (ad 1)) C in_Ck hP 45 cw_45 rfl 0 (by decide) k_2_7 rfl rfl d_Ck_inspectNames_1 ?_
  refine lv_iload_n hx hb d_Ck_inspectNames_4 rfl (lv_at hl 1 rfl) ?_
  obtain ⟨q1, hq1, h⟩ := o_bd_some h
  refine o_V (st1 := [.int q1]) (w1 := (o_cw ad ca rt Sj T0 T1 Rd Pg Pt Mk Lk Ck Jd Ld Pr)) hE.1 C (c_Tx_kind_0 hE l x1 T0 Sj T1 Rd Pg Pt Mk Lk Ck Jd Ld Pr rt hq1) hP (hDD _ _ _ _ _ _ _ _ _ _ _ _ _) hS hl.1 rfl cw_1 k_4_96 k_4_50 k_4_51 k_1_2 k_4_52 hv_Tx_kind rfl rfl ⟨(Nat.le_of_ble_eq_true rfl), (Nat.le_of_ble_eq_true rfl)⟩ rfl (Nat.le_of_ble_eq_true rfl) ⟨Nat.zero_le _, Nat.zero_le _⟩ rfl d_Ck_inspectNames_5 (fun H locs hP hS => ?_)
  refine lv_iconst (v := (5:Int32)) hx hb d_Ck_inspectNames_8 (by decide) ?_
  refine lv_icmp_ne (tgt := 16) hx hb d_Ck_inspectNames_9 (by decide) (fun c1 => ?_) (fun c1 => ?_)
  · replace h := o_ff c1 h
    refine lv_iconst (v := (0:Int32)) hx hb d_Ck_inspectNames_16 (by decide) ?_
    exact w_Ck_inspectNames_j17 hE C hDD n x1 (0:Int32) T0 Ck Sj T1 Rd Pg Pt Mk Lk Jd Ld Pr rt h _ _ _ hP hS (lv_sub hl [0, 1] rfl)
  · replace h := o_tt c1 h
    refine lv_iconst (v := (1:Int32)) hx hb d_Ck_inspectNames_12 (by decide) ?_
    refine lv_goto (tgt := 17) hx hb d_Ck_inspectNames_13 (by decide) ?_
    exact w_Ck_inspectNames_j17 hE C hDD n x1 (1:Int32) T0 Ck Sj T1 Rd Pg Pt Mk Lk Jd Ld Pr rt h _ _ _ hP hS (lv_sub hl [0, 1] rfl)
set_option maxHeartbeats 4000000 in
set_option maxRecDepth 100000 in
theorem w_Ck_inspectPlain_j64 {E : (Nat → Prop) → State → Heap → Prop} {p : Program} {l : Launch} {e : Env} {s : State} {m : MethodId} {args : Array Value} {below : List Frame} {meth : Method} {c : Code} {D : va_G} {ad kd sd vd xd : Nat → Nat} {ca : Nat → ClassId} {A : Nat → Prop} (hE : o_EK E kd sd vd xd) (C : o_Cx E p s m args meth c D o_cls (o_tys ca) "SchemaJudge$Checker" b_Ck_inspectPlain none 6 cc_Ck_inspectPlain A) (hDD : ∀ (rt : Nat) (Sj : SSJ) (T0 : STx) (T1 : STx) (Rd : SRd) (Pg : SPg) (Pt : SPt) (Mk : SMk) (Lk : SLk) (Ck : SCk) (Jd : SJd) (Ld : SLd) (Pr : SPr), va_D A (o_cw ad ca rt Sj T0 T1 Rd Pg Pt Mk Lk Ck Jd Ld Pr)) (n : Nat) (x2 : Int32) (y1 : Int32) (T0 : STx) (Ck : SCk) (Sj : SSJ) (T1 : STx) (Rd : SRd) (Pg : SPg) (Pt : SPt) (Mk : SMk) (Lk : SLk) (Jd : SJd) (Ld : SLd) (Pr : SPr) (rt : Nat) {r : SCk} (h : m_Ck_inspectPlain_j64 n x2 y1 T0 Ck = some r) : o_At p l e rm_Ck_inspectPlain s m args below meth c (MQ below (o_Qx D o_cls none (o_cw ad ca rt Sj T0 T1 Rd Pg Pt Mk Lk r Jd Ld Pr) A) args s 0 0 A) o_cls D A 6 64 [.int y1, .ref (ad 45)] (o_cw ad ca rt Sj T0 T1 Rd Pg Pt Mk Lk Ck Jd Ld Pr) [(2, .int x2)] := by
  unfold m_Ck_inspectPlain_j64 at h
  intro H locs ls hP hS hl
  have C0 := C
  obtain ⟨hx, hb, -, -, -, hown, hts, hK, -, -⟩ := C0
  refine lv_iload_n hx hb d_Ck_inspectPlain_64 rfl (lv_at hl 0 rfl) ?_
  obtain ⟨q2, hq2, h⟩ := o_bd_some h
  refine o_V (st1 := []) (w1 := (o_cw ad ca rt Sj T0 T1 Rd Pg Pt Mk Lk q2 Jd Ld Pr)) hE.1 C (c_Ck_require hE l y1 x2 Ck Sj T0 T1 Rd Pg Pt Mk Lk Jd Ld Pr rt hq2) hP (hDD _ _ _ _ _ _ _ _ _ _ _ _ _) hS hl.1 rfl cw_45 k_4_53 k_4_55 k_s_19 k_1_7 k_4_56 hv_Ck_require rfl rfl ⟨(Nat.le_of_ble_eq_true rfl), (Nat.le_of_ble_eq_true rfl)⟩ rfl (Nat.le_of_ble_eq_true rfl) ⟨Nat.zero_le _, Nat.zero_le _⟩ rfl d_Ck_inspectPlain_65 (fun H locs hP hS => ?_)
  refine lv_goto (tgt := 186) hx hb d_Ck_inspectPlain_68 (by decide) ?_
  cases h
  exact o_rv C hP hS d_Ck_inspectPlain_186
set_option maxHeartbeats 4000000 in
set_option maxRecDepth 100000 in
theorem w_Ck_inspectPlain_j87 {E : (Nat → Prop) → State → Heap → Prop} {p : Program} {l : Launch} {e : Env} {s : State} {m : MethodId} {args : Array Value} {below : List Frame} {meth : Method} {c : Code} {D : va_G} {ad kd sd vd xd : Nat → Nat} {ca : Nat → ClassId} {A : Nat → Prop} (hE : o_EK E kd sd vd xd) (C : o_Cx E p s m args meth c D o_cls (o_tys ca) "SchemaJudge$Checker" b_Ck_inspectPlain none 6 cc_Ck_inspectPlain A) (hDD : ∀ (rt : Nat) (Sj : SSJ) (T0 : STx) (T1 : STx) (Rd : SRd) (Pg : SPg) (Pt : SPt) (Mk : SMk) (Lk : SLk) (Ck : SCk) (Jd : SJd) (Ld : SLd) (Pr : SPr), va_D A (o_cw ad ca rt Sj T0 T1 Rd Pg Pt Mk Lk Ck Jd Ld Pr)) (n : Nat) (x2 : Int32) (y1 : Int32) (T0 : STx) (Ck : SCk) (Sj : SSJ) (T1 : STx) (Rd : SRd) (Pg : SPg) (Pt : SPt) (Mk : SMk) (Lk : SLk) (Jd : SJd) (Ld : SLd) (Pr : SPr) (rt : Nat) {r : SCk} (h : m_Ck_inspectPlain_j87 n x2 y1 T0 Ck = some r) : o_At p l e rm_Ck_inspectPlain s m args below meth c (MQ below (o_Qx D o_cls none (o_cw ad ca rt Sj T0 T1 Rd Pg Pt Mk Lk r Jd Ld Pr) A) args s 0 0 A) o_cls D A 6 87 [.int y1, .ref (ad 45)] (o_cw ad ca rt Sj T0 T1 Rd Pg Pt Mk Lk Ck Jd Ld Pr) [(2, .int x2)] := by
  unfold m_Ck_inspectPlain_j87 at h
  intro H locs ls hP hS hl
  have C0 := C
  obtain ⟨hx, hb, -, -, -, hown, hts, hK, -, -⟩ := C0
  refine lv_iload_n hx hb d_Ck_inspectPlain_87 rfl (lv_at hl 0 rfl) ?_
  obtain ⟨q3, hq3, h⟩ := o_bd_some h
  refine o_V (st1 := []) (w1 := (o_cw ad ca rt Sj T0 T1 Rd Pg Pt Mk Lk q3 Jd Ld Pr)) hE.1 C (c_Ck_require hE l y1 x2 Ck Sj T0 T1 Rd Pg Pt Mk Lk Jd Ld Pr rt hq3) hP (hDD _ _ _ _ _ _ _ _ _ _ _ _ _) hS hl.1 rfl cw_45 k_4_53 k_4_55 k_s_19 k_1_7 k_4_56 hv_Ck_require rfl rfl ⟨(Nat.le_of_ble_eq_true rfl), (Nat.le_of_ble_eq_true rfl)⟩ rfl (Nat.le_of_ble_eq_true rfl) ⟨Nat.zero_le _, Nat.zero_le _⟩ rfl d_Ck_inspectPlain_88 (fun H locs hP hS => ?_)
  refine lv_goto (tgt := 186) hx hb d_Ck_inspectPlain_91 (by decide) ?_
  cases h
  exact o_rv C hP hS d_Ck_inspectPlain_186
set_option maxHeartbeats 4000000 in
set_option maxRecDepth 100000 in
theorem w_Ck_inspectPlain_b141 {E : (Nat → Prop) → State → Heap → Prop} {p : Program} {l : Launch} {e : Env} {s : State} {m : MethodId} {args : Array Value} {below : List Frame} {meth : Method} {c : Code} {D : va_G} {ad kd sd vd xd : Nat → Nat} {ca : Nat → ClassId} {A : Nat → Prop} {Q : State → Prop} (hE : o_EK E kd sd vd xd) (C : o_Cx E p s m args meth c D o_cls (o_tys ca) "SchemaJudge$Checker" b_Ck_inspectPlain none 6 cc_Ck_inspectPlain A) (hDD : ∀ (rt : Nat) (Sj : SSJ) (T0 : STx) (T1 : STx) (Rd : SRd) (Pg : SPg) (Pt : SPt) (Mk : SMk) (Lk : SLk) (Ck : SCk) (Jd : SJd) (Ld : SLd) (Pr : SPr), va_D A (o_cw ad ca rt Sj T0 T1 Rd Pg Pt Mk Lk Ck Jd Ld Pr)) (n : Nat) (u141_x2 : Int32) (u141_T0 : STx) (u141_Sj : SSJ) (u141_T1 : STx) (u141_Rd : SRd) (u141_Pg : SPg) (u141_Pt : SPt) (u141_Mk : SMk) (u141_Lk : SLk) (u141_Jd : SJd) (u141_Ld : SLd) (u141_Pr : SPr) (u141_rt : Nat) (z : Int32 × Int32 × SCk) (q : Nat × Int32 × Int32 × SCk) (h : m_Ck_inspectPlain_b141 n u141_x2 u141_T0 z = some q) (h0 : q.1 = 0 → o_At p l e rm_Ck_inspectPlain s m args below meth c Q o_cls D A 6 141 [] (o_cw ad ca u141_rt u141_Sj u141_T0 u141_T1 u141_Rd u141_Pg u141_Pt u141_Mk u141_Lk q.2.2.2 u141_Jd u141_Ld u141_Pr) [(0, .ref (ad 45)), (2, .int u141_x2), (4, .int q.2.1), (5, .int q.2.2.1)]) (h1 : q.1 ≠ 0 → (o_At p l e rm_Ck_inspectPlain s m args below meth c Q o_cls D A 6 183 [] (o_cw ad ca u141_rt u141_Sj u141_T0 u141_T1 u141_Rd u141_Pg u141_Pt u141_Mk u141_Lk q.2.2.2 u141_Jd u141_Ld u141_Pr) [])) : o_At p l e rm_Ck_inspectPlain s m args below meth c Q o_cls D A 6 141 [] (o_cw ad ca u141_rt u141_Sj u141_T0 u141_T1 u141_Rd u141_Pg u141_Pt u141_Mk u141_Lk z.2.2 u141_Jd u141_Ld u141_Pr) [(0, .ref (ad 45)), (2, .int u141_x2), (4, .int z.1), (5, .int z.2.1)] := by
  unfold m_Ck_inspectPlain_b141 at h
  intro H locs ls hP hS hl
  have C0 := C
  obtain ⟨hx, hb, -, -, -, hown, hts, hK, -, -⟩ := C0
  refine lv_iload hx hb d_Ck_inspectPlain_141 (lv_at hl 3 rfl) ?_
  refine lv_aload_n hx hb d_Ck_inspectPlain_143 rfl (lv_at hl 0 rfl) ?_
  refine o_get (v := .ref (ad 1)) C in_Ck hP 45 cw_45 rfl 0 (by decide) k_2_7 rfl rfl d_Ck_inspectPlain_144 ?_
  refine lv_iload_n hx hb d_Ck_inspectPlain_147 rfl (lv_at hl 1 rfl) ?_
  obtain ⟨q6, hq6, h⟩ := o_bd_some h
  refine o_V (st1 := [.int q6, .int z.2.1]) (w1 := (o_cw ad ca u141_rt u141_Sj u141_T0 u141_T1 u141_Rd u141_Pg u141_Pt u141_Mk u141_Lk z.2.2 u141_Jd u141_Ld u141_Pr)) hE.1 C (c_Tx_size_0 hE l u141_x2 u141_T0 u141_Sj u141_T1 u141_Rd u141_Pg u141_Pt u141_Mk u141_Lk z.2.2 u141_Jd u141_Ld u141_Pr u141_rt hq6) hP (hDD _ _ _ _ _ _ _ _ _ _ _ _ _) hS hl.1 rfl cw_1 k_4_71 k_3_215 k_3_216 k_1_2 k_3_217 hv_Tx_size rfl rfl ⟨(Nat.le_of_ble_eq_true rfl), (Nat.le_of_ble_eq_true rfl)⟩ rfl (Nat.le_of_ble_eq_true rfl) ⟨Nat.zero_le _, Nat.zero_le _⟩ rfl d_Ck_inspectPlain_148 (fun H locs hP hS => ?_)
  refine lv_icmp_ge (tgt := 183) hx hb d_Ck_inspectPlain_151 (by decide) (fun c12 => ?_) (fun c12 => ?_)
  · replace h := o_tt c12 h
    cases h
    exact h1 (Nat.succ_ne_zero 0) _ _ _ hP hS (lv_sub hl [] rfl)
  · replace h := o_ff c12 h
    refine lv_iload hx hb d_Ck_inspectPlain_154 (lv_at hl 2 rfl) ?_
    refine lv_iconst (v := (-1:Int32)) hx hb d_Ck_inspectPlain_156 (by decide) ?_
    refine lv_icmp_eq (tgt := 183) hx hb d_Ck_inspectPlain_157 (by decide) (fun c13 => ?_) (fun c13 => ?_)
    · replace h := o_tt c13 h
      cases h
      exact h1 (Nat.succ_ne_zero 0) _ _ _ hP hS (lv_sub hl [] rfl)
    · replace h := o_ff c13 h
      refine lv_aload_n hx hb d_Ck_inspectPlain_160 rfl (lv_at hl 0 rfl) ?_
      refine lv_iload hx hb d_Ck_inspectPlain_161 (lv_at hl 2 rfl) ?_
      obtain ⟨q7, hq7, h⟩ := o_bd_some h
      refine o_V (st1 := []) (w1 := (o_cw ad ca u141_rt u141_Sj u141_T0 u141_T1 u141_Rd u141_Pg u141_Pt u141_Mk u141_Lk q7 u141_Jd u141_Ld u141_Pr)) hE.1 C (c_Ck_inspectNames hE l n z.1 u141_T0 z.2.2 u141_Sj u141_T1 u141_Rd u141_Pg u141_Pt u141_Mk u141_Lk u141_Jd u141_Ld u141_Pr u141_rt hq7) hP (hDD _ _ _ _ _ _ _ _ _ _ _ _ _) hS hl.1 rfl cw_45 k_5_110 k_5_112 k_s_42 k_1_7 k_5_113 hv_Ck_inspectNames rfl rfl ⟨(Nat.le_of_ble_eq_true rfl), (Nat.le_of_ble_eq_true rfl)⟩ rfl (Nat.le_of_ble_eq_true rfl) ⟨Nat.zero_le _, Nat.zero_le _⟩ rfl d_Ck_inspectPlain_163 (fun H locs hP hS => ?_)
      refine lv_aload_n hx hb d_Ck_inspectPlain_166 rfl (lv_at hl 0 rfl) ?_
      refine o_get (v := .ref (ad 1)) C in_Ck hP 45 cw_45 rfl 0 (by decide) k_2_7 rfl rfl d_Ck_inspectPlain_167 ?_
      refine lv_iload hx hb d_Ck_inspectPlain_170 (lv_at hl 2 rfl) ?_
      obtain ⟨q8, hq8, h⟩ := o_bd_some h
      refine o_V (st1 := [.int q8]) (w1 := (o_cw ad ca u141_rt u141_Sj u141_T0 u141_T1 u141_Rd u141_Pg u141_Pt u141_Mk u141_Lk q7 u141_Jd u141_Ld u141_Pr)) hE.1 C (c_Tx_nextChild_0 hE l z.1 u141_T0 u141_Sj u141_T1 u141_Rd u141_Pg u141_Pt u141_Mk u141_Lk q7 u141_Jd u141_Ld u141_Pr u141_rt hq8) hP (hDD _ _ _ _ _ _ _ _ _ _ _ _ _) hS hl.1 rfl cw_1 k_4_101 k_3_222 k_3_223 k_1_2 k_3_224 hv_Tx_nextChild rfl rfl ⟨(Nat.le_of_ble_eq_true rfl), (Nat.le_of_ble_eq_true rfl)⟩ rfl (Nat.le_of_ble_eq_true rfl) ⟨Nat.zero_le _, Nat.zero_le _⟩ rfl d_Ck_inspectPlain_172 (fun H locs hP hS => ?_)
      refine lv_istore (lv' := [(4, .int q8), (0, .ref (ad 45)), (2, .int u141_x2), (5, .int z.2.1)]) hx hb d_Ck_inspectPlain_175 hl (by decide) rfl (fun ls hl => ?_)
      obtain ⟨x5_177, ex5_177⟩ : ∃ y : Int32, y = z.2.1 + (1:Int32) := ⟨_, rfl⟩
      replace h := o_nm_at ex5_177 h
      refine lv_iinc (v := x5_177) (lv' := [(5, .int x5_177), (4, .int q8), (0, .ref (ad 45)), (2, .int u141_x2)]) hx hb d_Ck_inspectPlain_177 hl (k := 3) rfl (by rw [ex5_177]; rfl) (by decide) rfl (fun ls hl => ?_)
      refine lv_goto (tgt := 141) hx hb d_Ck_inspectPlain_180 (by decide) ?_
      cases h
      exact h0 rfl _ _ _ hP hS (lv_sub hl [2, 3, 1, 0] rfl)
set_option maxHeartbeats 4000000 in
set_option maxRecDepth 100000 in
theorem w_Ck_inspectPlain_j114 {E : (Nat → Prop) → State → Heap → Prop} {p : Program} {l : Launch} {e : Env} {s : State} {m : MethodId} {args : Array Value} {below : List Frame} {meth : Method} {c : Code} {D : va_G} {ad kd sd vd xd : Nat → Nat} {ca : Nat → ClassId} {A : Nat → Prop} (hE : o_EK E kd sd vd xd) (C : o_Cx E p s m args meth c D o_cls (o_tys ca) "SchemaJudge$Checker" b_Ck_inspectPlain none 6 cc_Ck_inspectPlain A) (hDD : ∀ (rt : Nat) (Sj : SSJ) (T0 : STx) (T1 : STx) (Rd : SRd) (Pg : SPg) (Pt : SPt) (Mk : SMk) (Lk : SLk) (Ck : SCk) (Jd : SJd) (Ld : SLd) (Pr : SPr), va_D A (o_cw ad ca rt Sj T0 T1 Rd Pg Pt Mk Lk Ck Jd Ld Pr)) (n : Nat) (x2 : Int32) (x3 : Int32) (y1 : Int32) (T0 : STx) (Ck : SCk) (Sj : SSJ) (T1 : STx) (Rd : SRd) (Pg : SPg) (Pt : SPt) (Mk : SMk) (Lk : SLk) (Jd : SJd) (Ld : SLd) (Pr : SPr) (rt : Nat) {r : SCk} (h : m_Ck_inspectPlain_j114 n x2 x3 y1 T0 Ck = some r) : o_At p l e rm_Ck_inspectPlain s m args below meth c (MQ below (o_Qx D o_cls none (o_cw ad ca rt Sj T0 T1 Rd Pg Pt Mk Lk r Jd Ld Pr) A) args s 0 0 A) o_cls D A 6 114 [.int y1, .ref (ad 45)] (o_cw ad ca rt Sj T0 T1 Rd Pg Pt Mk Lk Ck Jd Ld Pr) [(0, .ref (ad 45)), (2, .int x2), (3, .int x3)] := by
  unfold m_Ck_inspectPlain_j114 at h
  intro H locs ls hP hS hl
  have C0 := C
  obtain ⟨hx, hb, -, -, -, hown, hts, hK, -, -⟩ := C0
  refine lv_iload_n hx hb d_Ck_inspectPlain_114 rfl (lv_at hl 1 rfl) ?_
  obtain ⟨q5, hq5, h⟩ := o_bd_some h
  refine o_V (st1 := []) (w1 := (o_cw ad ca rt Sj T0 T1 Rd Pg Pt Mk Lk q5 Jd Ld Pr)) hE.1 C (c_Ck_require hE l y1 x2 Ck Sj T0 T1 Rd Pg Pt Mk Lk Jd Ld Pr rt hq5) hP (hDD _ _ _ _ _ _ _ _ _ _ _ _ _) hS hl.1 rfl cw_45 k_4_53 k_4_55 k_s_19 k_1_7 k_4_56 hv_Ck_require rfl rfl ⟨(Nat.le_of_ble_eq_true rfl), (Nat.le_of_ble_eq_true rfl)⟩ rfl (Nat.le_of_ble_eq_true rfl) ⟨Nat.zero_le _, Nat.zero_le _⟩ rfl d_Ck_inspectPlain_115 (fun H locs hP hS => ?_)
  refine lv_iload_n hx hb d_Ck_inspectPlain_118 rfl (lv_at hl 2 rfl) ?_
  refine lv_bipush (v := (6:Int32)) hx hb d_Ck_inspectPlain_119 (by decide) ?_
  refine lv_icmp_ne (tgt := 135) hx hb d_Ck_inspectPlain_121 (by decide) (fun c11 => ?_) (fun c11 => ?_)
  · replace h := o_ff c11 h
    refine lv_iconst (v := (-1:Int32)) hx hb d_Ck_inspectPlain_135 (by decide) ?_
    refine lv_istore (lv' := [(4, .int (-1:Int32)), (0, .ref (ad 45)), (2, .int x2), (3, .int x3)]) hx hb d_Ck_inspectPlain_136 hl (by decide) rfl (fun ls hl => ?_)
    refine lv_iconst (v := (0:Int32)) hx hb d_Ck_inspectPlain_138 (by decide) ?_
    refine lv_istore (lv' := [(5, .int (0:Int32)), (4, .int (-1:Int32)), (0, .ref (ad 45)), (2, .int x2), (3, .int x3)]) hx hb d_Ck_inspectPlain_139 hl (by decide) rfl (fun ls hl => ?_)
    obtain ⟨q9, hq9, h⟩ := o_bd_some h
    refine o_sim2 (AH := fun zz => o_At p l e rm_Ck_inspectPlain s m args below meth c _ o_cls D A 6 141 [] (o_cw ad ca rt Sj T0 T1 Rd Pg Pt Mk Lk zz.2.2 Jd Ld Pr) [(0, .ref (ad 45)), (2, .int x2), (4, .int zz.1), (5, .int zz.2.1)]) (AX := fun qq => o_At p l e rm_Ck_inspectPlain s m args below meth c _ o_cls D A 6 183 [] (o_cw ad ca rt Sj T0 T1 Rd Pg Pt Mk Lk qq.2.2.2 Jd Ld Pr) []) (fun zz qq h h0 h1 => w_Ck_inspectPlain_b141 hE C hDD n x2 T0 Sj T1 Rd Pg Pt Mk Lk Jd Ld Pr rt zz qq h h0 h1) n _ q9 hq9 ?_ _ _ _ hP hS (lv_sub hl [2, 3, 1, 0] rfl)
    intro H locs ls hP hS hl
    refine lv_goto (tgt := 186) hx hb d_Ck_inspectPlain_183 (by decide) ?_
    cases h
    exact o_rv C hP hS d_Ck_inspectPlain_186
  · replace h := o_tt c11 h
    refine lv_aload_n hx hb d_Ck_inspectPlain_124 rfl (lv_at hl 0 rfl) ?_
    refine o_get (v := .ref (ad 1)) C in_Ck hP 45 cw_45 rfl 0 (by decide) k_2_7 rfl rfl d_Ck_inspectPlain_125 ?_
    refine lv_iload_n hx hb d_Ck_inspectPlain_128 rfl (lv_at hl 1 rfl) ?_
    obtain ⟨q10, hq10, h⟩ := o_bd_some h
    refine o_V (st1 := [.int q10]) (w1 := (o_cw ad ca rt Sj T0 T1 Rd Pg Pt Mk Lk q5 Jd Ld Pr)) hE.1 C (c_Tx_firstChild_0 hE l x2 T0 Sj T1 Rd Pg Pt Mk Lk q5 Jd Ld Pr rt hq10) hP (hDD _ _ _ _ _ _ _ _ _ _ _ _ _) hS hl.1 rfl cw_1 k_4_70 k_3_211 k_3_212 k_1_2 k_3_213 hv_Tx_firstChild rfl rfl ⟨(Nat.le_of_ble_eq_true rfl), (Nat.le_of_ble_eq_true rfl)⟩ rfl (Nat.le_of_ble_eq_true rfl) ⟨Nat.zero_le _, Nat.zero_le _⟩ rfl d_Ck_inspectPlain_129 (fun H locs hP hS => ?_)
    refine lv_goto (tgt := 136) hx hb d_Ck_inspectPlain_132 (by decide) ?_
    refine lv_istore (lv' := [(4, .int q10), (0, .ref (ad 45)), (2, .int x2), (3, .int x3)]) hx hb d_Ck_inspectPlain_136 hl (by decide) rfl (fun ls hl => ?_)
    refine lv_iconst (v := (0:Int32)) hx hb d_Ck_inspectPlain_138 (by decide) ?_
    refine lv_istore (lv' := [(5, .int (0:Int32)), (4, .int q10), (0, .ref (ad 45)), (2, .int x2), (3, .int x3)]) hx hb d_Ck_inspectPlain_139 hl (by decide) rfl (fun ls hl => ?_)
    obtain ⟨q11, hq11, h⟩ := o_bd_some h
    refine o_sim2 (AH := fun zz => o_At p l e rm_Ck_inspectPlain s m args below meth c _ o_cls D A 6 141 [] (o_cw ad ca rt Sj T0 T1 Rd Pg Pt Mk Lk zz.2.2 Jd Ld Pr) [(0, .ref (ad 45)), (2, .int x2), (4, .int zz.1), (5, .int zz.2.1)]) (AX := fun qq => o_At p l e rm_Ck_inspectPlain s m args below meth c _ o_cls D A 6 183 [] (o_cw ad ca rt Sj T0 T1 Rd Pg Pt Mk Lk qq.2.2.2 Jd Ld Pr) []) (fun zz qq h h0 h1 => w_Ck_inspectPlain_b141 hE C hDD n x2 T0 Sj T1 Rd Pg Pt Mk Lk Jd Ld Pr rt zz qq h h0 h1) n _ q11 hq11 ?_ _ _ _ hP hS (lv_sub hl [2, 3, 1, 0] rfl)
    intro H locs ls hP hS hl
    refine lv_goto (tgt := 186) hx hb d_Ck_inspectPlain_183 (by decide) ?_
    cases h
    exact o_rv C hP hS d_Ck_inspectPlain_186
set_option maxHeartbeats 4000000 in
set_option maxRecDepth 100000 in
theorem c_Ck_inspectPlain {E : (Nat → Prop) → State → Heap → Prop} {D : va_G} {ad kd sd vd xd : Nat → Nat} {ca : Nat → ClassId} (hE : o_EK E kd sd vd xd) (l : Launch) (n : Nat) (x1 : Nat) (gx1 : o_kb x1 = true) (x2 : Int32) (x3 : Int32) (T0 : STx) (Ck : SCk) (Sj : SSJ) (T1 : STx) (Rd : SRd) (Pg : SPg) (Pt : SPt) (Mk : SMk) (Lk : SLk) (Jd : SJd) (Ld : SLd) (Pr : SPr) (rt : Nat) {r : SCk} (h : m_Ck_inspectPlain n x1 x2 x3 T0 Ck = some r) : o_Cn E l D o_cls (o_tys ca) y_Ck_inspectPlain cc_Ck_inspectPlain rm_Ck_inspectPlain [.ref (ad 45), .ref (kd x1), .int x2, .int x3] (o_cw ad ca rt Sj T0 T1 Rd Pg Pt Mk Lk Ck Jd Ld Pr) (o_cw ad ca rt Sj T0 T1 Rd Pg Pt Mk Lk r Jd Ld Pr) none := by
  refine o_Cn_of (by decide) (Nat.le_of_ble_eq_true rfl) ?_
  intro p e s m below meth c A ls C hD hP hS hl
  have hDD : ∀ (rt : Nat) (Sj : SSJ) (T0 : STx) (T1 : STx) (Rd : SRd) (Pg : SPg) (Pt : SPt) (Mk : SMk) (Lk : SLk) (Ck : SCk) (Jd : SJd) (Ld : SLd) (Pr : SPr), va_D A (o_cw ad ca rt Sj T0 T1 Rd Pg Pt Mk Lk Ck Jd Ld Pr) := fun _ _ _ _ _ _ _ _ _ _ _ _ _ => o_D_map hD rfl
  have hl : lv_has ls 6 [(0, .ref (ad 45)), (1, .ref (kd x1)), (2, .int x2), (3, .int x3)] := hl
  unfold m_Ck_inspectPlain at h
  have C0 := C
  obtain ⟨hx, hb, -, -, -, hown, hts, hK, -, -⟩ := C0
  refine lv_aload_n hx hb d_Ck_inspectPlain_0 rfl (lv_at hl 1 rfl) ?_
  refine o_gkN (fi := 1) (v := (kw_form x1)) hE C gx1 hS rfl rfl nw_22 d_Ck_inspectPlain_1 ?_
  refine lv_topi (fun w4 ew4 => ?_)
  replace h := o_nm_at ew4 h
  by_cases c1 : w4 = (10:Int32)
  · replace h := o_tt c1 h
    refine lv_tableIn (off := 40) (tgt := 44) hx hb d_Ck_inspectPlain_4 (by rw [c1]; decide) (by rw [c1]; decide) (by rw [c1]; rfl) (by decide) ?_
    refine lv_aload_n hx hb d_Ck_inspectPlain_44 rfl (lv_at hl 0 rfl) ?_
    refine lv_iload_n hx hb d_Ck_inspectPlain_45 rfl (lv_at hl 2 rfl) ?_
    refine lv_iload_n hx hb d_Ck_inspectPlain_46 rfl (lv_at hl 3 rfl) ?_
    obtain ⟨q1, hq1, h⟩ := o_bd_some h
    refine o_V (st1 := []) (w1 := (o_cw ad ca rt Sj T0 T1 Rd Pg Pt Mk Lk q1 Jd Ld Pr)) hE.1 C (c_Ck_inspectTypes hE l n x2 x3 T0 Ck Sj T1 Rd Pg Pt Mk Lk Jd Ld Pr rt hq1) hP (hDD _ _ _ _ _ _ _ _ _ _ _ _ _) hS hl.1 rfl cw_45 k_5_85 k_5_87 k_s_39 k_1_7 k_5_88 hv_Ck_inspectTypes rfl rfl ⟨(Nat.le_of_ble_eq_true rfl), (Nat.le_of_ble_eq_true rfl)⟩ rfl (Nat.le_of_ble_eq_true rfl) ⟨Nat.zero_le _, Nat.zero_le _⟩ rfl d_Ck_inspectPlain_47 (fun H locs hP hS => ?_)
    refine lv_goto (tgt := 186) hx hb d_Ck_inspectPlain_50 (by decide) ?_
    cases h
    exact o_rv C hP hS d_Ck_inspectPlain_186
  replace h := o_ff c1 h
  by_cases c2 : w4 = (11:Int32)
  · replace h := o_tt c2 h
    refine lv_tableIn (off := 49) (tgt := 53) hx hb d_Ck_inspectPlain_4 (by rw [c2]; decide) (by rw [c2]; decide) (by rw [c2]; rfl) (by decide) ?_
    refine lv_aload_n hx hb d_Ck_inspectPlain_53 rfl (lv_at hl 0 rfl) ?_
    refine lv_iload_n hx hb d_Ck_inspectPlain_54 rfl (lv_at hl 3 rfl) ?_
    refine lv_iconst (v := (5:Int32)) hx hb d_Ck_inspectPlain_55 (by decide) ?_
    refine lv_icmp_ne (tgt := 63) hx hb d_Ck_inspectPlain_56 (by decide) (fun c3 => ?_) (fun c3 => ?_)
    · replace h := o_ff c3 h
      refine lv_iconst (v := (0:Int32)) hx hb d_Ck_inspectPlain_63 (by decide) ?_
      exact w_Ck_inspectPlain_j64 hE C hDD n x2 (0:Int32) T0 Ck Sj T1 Rd Pg Pt Mk Lk Jd Ld Pr rt h _ _ _ hP hS (lv_sub hl [2] rfl)
    · replace h := o_tt c3 h
      refine lv_iconst (v := (1:Int32)) hx hb d_Ck_inspectPlain_59 (by decide) ?_
      refine lv_goto (tgt := 64) hx hb d_Ck_inspectPlain_60 (by decide) ?_
      exact w_Ck_inspectPlain_j64 hE C hDD n x2 (1:Int32) T0 Ck Sj T1 Rd Pg Pt Mk Lk Jd Ld Pr rt h _ _ _ hP hS (lv_sub hl [2] rfl)
  replace h := o_ff c2 h
  by_cases c4 : w4 = (12:Int32)
  · replace h := o_tt c4 h
    refine lv_tableIn (off := 182) (tgt := 186) hx hb d_Ck_inspectPlain_4 (by rw [c4]; decide) (by rw [c4]; decide) (by rw [c4]; rfl) (by decide) ?_
    cases h
    exact o_rv C hP hS d_Ck_inspectPlain_186
  replace h := o_ff c4 h
  by_cases c5 : w4 = (13:Int32)
  · replace h := o_tt c5 h
    refine lv_tableIn (off := 67) (tgt := 71) hx hb d_Ck_inspectPlain_4 (by rw [c5]; decide) (by rw [c5]; decide) (by rw [c5]; rfl) (by decide) ?_
    refine lv_aload_n hx hb d_Ck_inspectPlain_71 rfl (lv_at hl 0 rfl) ?_
    refine lv_iload_n hx hb d_Ck_inspectPlain_72 rfl (lv_at hl 3 rfl) ?_
    refine lv_iconst (v := (2:Int32)) hx hb d_Ck_inspectPlain_73 (by decide) ?_
    refine lv_icmp_eq (tgt := 82) hx hb d_Ck_inspectPlain_74 (by decide) (fun c6 => ?_) (fun c6 => ?_)
    · replace h := o_tt c6 h
      refine lv_iconst (v := (1:Int32)) hx hb d_Ck_inspectPlain_82 (by decide) ?_
      refine lv_goto (tgt := 87) hx hb d_Ck_inspectPlain_83 (by decide) ?_
      exact w_Ck_inspectPlain_j87 hE C hDD n x2 (1:Int32) T0 Ck Sj T1 Rd Pg Pt Mk Lk Jd Ld Pr rt h _ _ _ hP hS (lv_sub hl [2] rfl)
    · replace h := o_ff c6 h
      refine lv_iload_n hx hb d_Ck_inspectPlain_77 rfl (lv_at hl 3 rfl) ?_
      refine lv_iconst (v := (1:Int32)) hx hb d_Ck_inspectPlain_78 (by decide) ?_
      refine lv_icmp_ne (tgt := 86) hx hb d_Ck_inspectPlain_79 (by decide) (fun c7 => ?_) (fun c7 => ?_)
      · replace h := o_ff c7 h
        refine lv_iconst (v := (0:Int32)) hx hb d_Ck_inspectPlain_86 (by decide) ?_
        exact w_Ck_inspectPlain_j87 hE C hDD n x2 (0:Int32) T0 Ck Sj T1 Rd Pg Pt Mk Lk Jd Ld Pr rt h _ _ _ hP hS (lv_sub hl [2] rfl)
      · replace h := o_tt c7 h
        refine lv_iconst (v := (1:Int32)) hx hb d_Ck_inspectPlain_82 (by decide) ?_
        refine lv_goto (tgt := 87) hx hb d_Ck_inspectPlain_83 (by decide) ?_
        exact w_Ck_inspectPlain_j87 hE C hDD n x2 (1:Int32) T0 Ck Sj T1 Rd Pg Pt Mk Lk Jd Ld Pr rt h _ _ _ hP hS (lv_sub hl [2] rfl)
  replace h := o_ff c5 h
  by_cases c8 : w4 = (14:Int32)
  · replace h := o_tt c8 h
    refine lv_tableIn (off := 90) (tgt := 94) hx hb d_Ck_inspectPlain_4 (by rw [c8]; decide) (by rw [c8]; decide) (by rw [c8]; rfl) (by decide) ?_
    refine lv_aload_n hx hb d_Ck_inspectPlain_94 rfl (lv_at hl 0 rfl) ?_
    refine lv_iload_n hx hb d_Ck_inspectPlain_95 rfl (lv_at hl 2 rfl) ?_
    obtain ⟨q4, hq4, h⟩ := o_bd_some h
    refine o_V (st1 := []) (w1 := (o_cw ad ca rt Sj T0 T1 Rd Pg Pt Mk Lk q4 Jd Ld Pr)) hE.1 C (c_Ck_inspectNames hE l n x2 T0 Ck Sj T1 Rd Pg Pt Mk Lk Jd Ld Pr rt hq4) hP (hDD _ _ _ _ _ _ _ _ _ _ _ _ _) hS hl.1 rfl cw_45 k_5_110 k_5_112 k_s_42 k_1_7 k_5_113 hv_Ck_inspectNames rfl rfl ⟨(Nat.le_of_ble_eq_true rfl), (Nat.le_of_ble_eq_true rfl)⟩ rfl (Nat.le_of_ble_eq_true rfl) ⟨Nat.zero_le _, Nat.zero_le _⟩ rfl d_Ck_inspectPlain_96 (fun H locs hP hS => ?_)
    refine lv_goto (tgt := 186) hx hb d_Ck_inspectPlain_99 (by decide) ?_
    cases h
    exact o_rv C hP hS d_Ck_inspectPlain_186
  replace h := o_ff c8 h
  by_cases c9 : w4 = (15:Int32)
  · replace h := o_tt c9 h
    refine lv_tableIn (off := 98) (tgt := 102) hx hb d_Ck_inspectPlain_4 (by rw [c9]; decide) (by rw [c9]; decide) (by rw [c9]; rfl) (by decide) ?_
    refine lv_aload_n hx hb d_Ck_inspectPlain_102 rfl (lv_at hl 0 rfl) ?_
    refine lv_iload_n hx hb d_Ck_inspectPlain_103 rfl (lv_at hl 3 rfl) ?_
    refine lv_bipush (v := (6:Int32)) hx hb d_Ck_inspectPlain_104 (by decide) ?_
    refine lv_icmp_ne (tgt := 113) hx hb d_Ck_inspectPlain_106 (by decide) (fun c10 => ?_) (fun c10 => ?_)
    · replace h := o_ff c10 h
      refine lv_iconst (v := (0:Int32)) hx hb d_Ck_inspectPlain_113 (by decide) ?_
      exact w_Ck_inspectPlain_j114 hE C hDD n x2 x3 (0:Int32) T0 Ck Sj T1 Rd Pg Pt Mk Lk Jd Ld Pr rt h _ _ _ hP hS (lv_sub hl [0, 2, 3] rfl)
    · replace h := o_tt c10 h
      refine lv_iconst (v := (1:Int32)) hx hb d_Ck_inspectPlain_109 (by decide) ?_
      refine lv_goto (tgt := 114) hx hb d_Ck_inspectPlain_110 (by decide) ?_
      exact w_Ck_inspectPlain_j114 hE C hDD n x2 x3 (1:Int32) T0 Ck Sj T1 Rd Pg Pt Mk Lk Jd Ld Pr rt h _ _ _ hP hS (lv_sub hl [0, 2, 3] rfl)
  replace h := o_ff c9 h
  refine lv_tableOut (tgt := 186) hx hb d_Ck_inspectPlain_4 (by have ec1 := o_ne_i (n := 10) (by decide) c1; have ec2 := o_ne_i (n := 11) (by decide) c2; have ec4 := o_ne_i (n := 12) (by decide) c4; have ec5 := o_ne_i (n := 13) (by decide) c5; have ec8 := o_ne_i (n := 14) (by decide) c8; have ec9 := o_ne_i (n := 15) (by decide) c9; omega) (by decide) ?_
  cases h
  exact o_rv C hP hS d_Ck_inspectPlain_186
set_option maxHeartbeats 4000000 in
set_option maxRecDepth 100000 in
theorem c_Tx_sign_0 {E : (Nat → Prop) → State → Heap → Prop} {D : va_G} {ad kd sd vd xd : Nat → Nat} {ca : Nat → ClassId} (hE : o_EK E kd sd vd xd) (l : Launch) (x1 : Int32) (a0 : STx) (Sj : SSJ) (T1 : STx) (Rd : SRd) (Pg : SPg) (Pt : SPt) (Mk : SMk) (Lk : SLk) (Ck : SCk) (Jd : SJd) (Ld : SLd) (Pr : SPr) (rt : Nat) {r : Int32} (h : m_Tx_sign x1 a0 = some r) : o_Cn E l D o_cls (o_tys ca) y_Tx_sign cc_Tx_sign rm_Tx_sign [.ref (ad 1), .int x1] (o_cw ad ca rt Sj a0 T1 Rd Pg Pt Mk Lk Ck Jd Ld Pr) (o_cw ad ca rt Sj a0 T1 Rd Pg Pt Mk Lk Ck Jd Ld Pr) (some (.int r)) := by
  refine o_Cn_of (by decide) (Nat.le_of_ble_eq_true rfl) ?_
  intro p e s m below meth c A ls C hD hP hS hl
  have hDD : ∀ (rt : Nat) (Sj : SSJ) (T0 : STx) (T1 : STx) (Rd : SRd) (Pg : SPg) (Pt : SPt) (Mk : SMk) (Lk : SLk) (Ck : SCk) (Jd : SJd) (Ld : SLd) (Pr : SPr), va_D A (o_cw ad ca rt Sj T0 T1 Rd Pg Pt Mk Lk Ck Jd Ld Pr) := fun _ _ _ _ _ _ _ _ _ _ _ _ _ => o_D_map hD rfl
  have hl : lv_has ls 2 [(0, .ref (ad 1)), (1, .int x1)] := hl
  unfold m_Tx_sign at h
  have C0 := C
  obtain ⟨hx, hb, -, -, -, hown, hts, hK, -, -⟩ := C0
  refine lv_iload_n hx hb d_Tx_sign_0 rfl (lv_at hl 1 rfl) ?_
  refine lv_if_lt (tgt := 21) hx hb d_Tx_sign_1 (by decide) (fun c1 => ?_) (fun c1 => ?_)
  · replace h := o_tt c1 h
    refine lv_iconst (v := (0:Int32)) hx hb d_Tx_sign_21 (by decide) ?_
    cases h
    exact o_ri (v := (0:Int32)) C hP hS d_Tx_sign_22
  · replace h := o_ff c1 h
    refine lv_iload_n hx hb d_Tx_sign_4 rfl (lv_at hl 1 rfl) ?_
    refine lv_aload_n hx hb d_Tx_sign_5 rfl (lv_at hl 0 rfl) ?_
    refine o_get (v := .int (Tx_total a0)) C in_Tx hP 1 cw_1 rfl 10 (by decide) k_1_56 rfl rfl d_Tx_sign_6 ?_
    refine lv_icmp_ge (tgt := 21) hx hb d_Tx_sign_9 (by decide) (fun c2 => ?_) (fun c2 => ?_)
    · replace h := o_tt c2 h
      refine lv_iconst (v := (0:Int32)) hx hb d_Tx_sign_21 (by decide) ?_
      cases h
      exact o_ri (v := (0:Int32)) C hP hS d_Tx_sign_22
    · replace h := o_ff c2 h
      refine lv_aload_n hx hb d_Tx_sign_12 rfl (lv_at hl 0 rfl) ?_
      refine o_get (v := .ref (ad 4)) C in_Tx hP 1 cw_1 rfl 2 (by decide) k_1_48 rfl rfl d_Tx_sign_13 ?_
      refine lv_iload_n hx hb d_Tx_sign_16 rfl (lv_at hl 1 rfl) ?_
      obtain ⟨g3, h⟩ := o_gd_some h
      refine o_iald (f := (Tx_sizes a0)) C hP 4 2 cw_4 rfl g3 d_Tx_sign_17 ?_
      refine lv_if_ne (tgt := 23) hx hb d_Tx_sign_18 (by decide) (fun c4 => ?_) (fun c4 => ?_)
      · replace h := o_ff c4 h
        refine lv_aload_n hx hb d_Tx_sign_23 rfl (lv_at hl 0 rfl) ?_
        refine o_get (v := .ref (ad 10)) C in_Tx hP 1 cw_1 rfl 8 (by decide) k_1_54 rfl rfl d_Tx_sign_24 ?_
        refine lv_iload_n hx hb d_Tx_sign_27 rfl (lv_at hl 1 rfl) ?_
        obtain ⟨g5, h⟩ := o_gd_some h
        refine o_zald (f := (Tx_negatives a0)) C hP 10 8 cw_10 rfl g5 d_Tx_sign_28 ?_
        refine lv_if_eq (tgt := 36) hx hb d_Tx_sign_29 (by decide) (fun c6 => ?_) (fun c6 => ?_)
        · replace h := o_tt c6 h
          refine lv_iconst (v := (1:Int32)) hx hb d_Tx_sign_36 (by decide) ?_
          cases h
          exact o_ri (v := (1:Int32)) C hP hS d_Tx_sign_37
        · replace h := o_ff c6 h
          refine lv_iconst (v := (-1:Int32)) hx hb d_Tx_sign_32 (by decide) ?_
          refine lv_goto (tgt := 37) hx hb d_Tx_sign_33 (by decide) ?_
          cases h
          exact o_ri (v := (-1:Int32)) C hP hS d_Tx_sign_37
      · replace h := o_tt c4 h
        refine lv_iconst (v := (0:Int32)) hx hb d_Tx_sign_21 (by decide) ?_
        cases h
        exact o_ri (v := (0:Int32)) C hP hS d_Tx_sign_22
set_option maxHeartbeats 4000000 in
set_option maxRecDepth 100000 in
theorem c_Tx_exponent_0 {E : (Nat → Prop) → State → Heap → Prop} {D : va_G} {ad kd sd vd xd : Nat → Nat} {ca : Nat → ClassId} (hE : o_EK E kd sd vd xd) (l : Launch) (x1 : Int32) (a0 : STx) (Sj : SSJ) (T1 : STx) (Rd : SRd) (Pg : SPg) (Pt : SPt) (Mk : SMk) (Lk : SLk) (Ck : SCk) (Jd : SJd) (Ld : SLd) (Pr : SPr) (rt : Nat) {r : Int32} (h : m_Tx_exponent x1 a0 = some r) : o_Cn E l D o_cls (o_tys ca) y_Tx_exponent cc_Tx_exponent rm_Tx_exponent [.ref (ad 1), .int x1] (o_cw ad ca rt Sj a0 T1 Rd Pg Pt Mk Lk Ck Jd Ld Pr) (o_cw ad ca rt Sj a0 T1 Rd Pg Pt Mk Lk Ck Jd Ld Pr) (some (.int r)) := by
  refine o_Cn_of (by decide) (Nat.le_of_ble_eq_true rfl) ?_
  intro p e s m below meth c A ls C hD hP hS hl
  have hDD : ∀ (rt : Nat) (Sj : SSJ) (T0 : STx) (T1 : STx) (Rd : SRd) (Pg : SPg) (Pt : SPt) (Mk : SMk) (Lk : SLk) (Ck : SCk) (Jd : SJd) (Ld : SLd) (Pr : SPr), va_D A (o_cw ad ca rt Sj T0 T1 Rd Pg Pt Mk Lk Ck Jd Ld Pr) := fun _ _ _ _ _ _ _ _ _ _ _ _ _ => o_D_map hD rfl
  have hl : lv_has ls 2 [(0, .ref (ad 1)), (1, .int x1)] := hl
  unfold m_Tx_exponent at h
  have C0 := C
  obtain ⟨hx, hb, -, -, -, hown, hts, hK, -, -⟩ := C0
  refine lv_iload_n hx hb d_Tx_exponent_0 rfl (lv_at hl 1 rfl) ?_
  refine lv_if_lt (tgt := 21) hx hb d_Tx_exponent_1 (by decide) (fun c1 => ?_) (fun c1 => ?_)
  · replace h := o_tt c1 h
    refine lv_iconst (v := (0:Int32)) hx hb d_Tx_exponent_21 (by decide) ?_
    cases h
    exact o_ri (v := (0:Int32)) C hP hS d_Tx_exponent_22
  · replace h := o_ff c1 h
    refine lv_iload_n hx hb d_Tx_exponent_4 rfl (lv_at hl 1 rfl) ?_
    refine lv_aload_n hx hb d_Tx_exponent_5 rfl (lv_at hl 0 rfl) ?_
    refine o_get (v := .int (Tx_total a0)) C in_Tx hP 1 cw_1 rfl 10 (by decide) k_1_56 rfl rfl d_Tx_exponent_6 ?_
    refine lv_icmp_ge (tgt := 21) hx hb d_Tx_exponent_9 (by decide) (fun c2 => ?_) (fun c2 => ?_)
    · replace h := o_tt c2 h
      refine lv_iconst (v := (0:Int32)) hx hb d_Tx_exponent_21 (by decide) ?_
      cases h
      exact o_ri (v := (0:Int32)) C hP hS d_Tx_exponent_22
    · replace h := o_ff c2 h
      refine lv_aload_n hx hb d_Tx_exponent_12 rfl (lv_at hl 0 rfl) ?_
      refine o_get (v := .ref (ad 6)) C in_Tx hP 1 cw_1 rfl 4 (by decide) k_1_50 rfl rfl d_Tx_exponent_13 ?_
      refine lv_iload_n hx hb d_Tx_exponent_16 rfl (lv_at hl 1 rfl) ?_
      obtain ⟨g3, h⟩ := o_gd_some h
      refine o_iald (f := (Tx_exponents a0)) C hP 6 4 cw_6 rfl g3 d_Tx_exponent_17 ?_
      refine lv_goto (tgt := 22) hx hb d_Tx_exponent_18 (by decide) ?_
      cases h
      exact o_ri (v := ((Tx_exponents a0) x1.toNatClampNeg)) C hP hS d_Tx_exponent_22
set_option maxHeartbeats 4000000 in
set_option maxRecDepth 100000 in
theorem w_Tx_wholeNumber_b47_0 {E : (Nat → Prop) → State → Heap → Prop} {p : Program} {l : Launch} {e : Env} {s : State} {m : MethodId} {args : Array Value} {below : List Frame} {meth : Method} {c : Code} {D : va_G} {ad kd sd vd xd : Nat → Nat} {ca : Nat → ClassId} {A : Nat → Prop} {Q : State → Prop} (hE : o_EK E kd sd vd xd) (C : o_Cx E p s m args meth c D o_cls (o_tys ca) "SchemaJudge$Text" b_Tx_wholeNumber (some .int) 4 cc_Tx_wholeNumber A) (hDD : ∀ (rt : Nat) (Sj : SSJ) (T0 : STx) (T1 : STx) (Rd : SRd) (Pg : SPg) (Pt : SPt) (Mk : SMk) (Lk : SLk) (Ck : SCk) (Jd : SJd) (Ld : SLd) (Pr : SPr), va_D A (o_cw ad ca rt Sj T0 T1 Rd Pg Pt Mk Lk Ck Jd Ld Pr)) (n : Nat) (u47_x1 : Int32) (u47_a0 : STx) (u47_Sj : SSJ) (u47_T1 : STx) (u47_Rd : SRd) (u47_Pg : SPg) (u47_Pt : SPt) (u47_Mk : SMk) (u47_Lk : SLk) (u47_Ck : SCk) (u47_Jd : SJd) (u47_Ld : SLd) (u47_Pr : SPr) (u47_rt : Nat) (z : Int32 × Int32) (q : Nat × Int32 × Int32) (h : m_Tx_wholeNumber_b47 n u47_x1 u47_a0 z = some q) (h0 : q.1 = 0 → o_At p l e rm_Tx_wholeNumber s m args below meth c Q o_cls D A 4 47 [] (o_cw ad ca u47_rt u47_Sj u47_a0 u47_T1 u47_Rd u47_Pg u47_Pt u47_Mk u47_Lk u47_Ck u47_Jd u47_Ld u47_Pr) [(0, .ref (ad 1)), (1, .int u47_x1), (2, .int q.2.1), (3, .int q.2.2)]) (h1 : q.1 ≠ 0 → (o_At p l e rm_Tx_wholeNumber s m args below meth c Q o_cls D A 4 80 [] (o_cw ad ca u47_rt u47_Sj u47_a0 u47_T1 u47_Rd u47_Pg u47_Pt u47_Mk u47_Lk u47_Ck u47_Jd u47_Ld u47_Pr) [(2, .int q.2.1)])) : o_At p l e rm_Tx_wholeNumber s m args below meth c Q o_cls D A 4 47 [] (o_cw ad ca u47_rt u47_Sj u47_a0 u47_T1 u47_Rd u47_Pg u47_Pt u47_Mk u47_Lk u47_Ck u47_Jd u47_Ld u47_Pr) [(0, .ref (ad 1)), (1, .int u47_x1), (2, .int z.1), (3, .int z.2)] := by
  unfold m_Tx_wholeNumber_b47 at h
  intro H locs ls hP hS hl
  have C0 := C
  obtain ⟨hx, hb, -, -, -, hown, hts, hK, -, -⟩ := C0
  refine lv_iload_n hx hb d_Tx_wholeNumber_47 rfl (lv_at hl 3 rfl) ?_
  refine lv_aload_n hx hb d_Tx_wholeNumber_48 rfl (lv_at hl 0 rfl) ?_
  refine lv_iload_n hx hb d_Tx_wholeNumber_49 rfl (lv_at hl 1 rfl) ?_
  obtain ⟨q6, hq6, h⟩ := o_bd_some h
  refine o_V (st1 := [.int q6, .int z.2]) (w1 := (o_cw ad ca u47_rt u47_Sj u47_a0 u47_T1 u47_Rd u47_Pg u47_Pt u47_Mk u47_Lk u47_Ck u47_Jd u47_Ld u47_Pr)) hE.1 C (c_Tx_size_0 hE l u47_x1 u47_a0 u47_Sj u47_T1 u47_Rd u47_Pg u47_Pt u47_Mk u47_Lk u47_Ck u47_Jd u47_Ld u47_Pr u47_rt hq6) hP (hDD _ _ _ _ _ _ _ _ _ _ _ _ _) hS hl.1 rfl cw_1 k_3_214 k_3_215 k_3_216 k_1_2 k_3_217 hv_Tx_size rfl rfl ⟨(Nat.le_of_ble_eq_true rfl), (Nat.le_of_ble_eq_true rfl)⟩ rfl (Nat.le_of_ble_eq_true rfl) ⟨Nat.zero_le _, Nat.zero_le _⟩ rfl d_Tx_wholeNumber_50 (fun H locs hP hS => ?_)
  refine lv_aload_n hx hb d_Tx_wholeNumber_53 rfl (lv_at hl 0 rfl) ?_
  refine lv_iload_n hx hb d_Tx_wholeNumber_54 rfl (lv_at hl 1 rfl) ?_
  obtain ⟨q7, hq7, h⟩ := o_bd_some h
  refine o_V (st1 := [.int q7, .int q6, .int z.2]) (w1 := (o_cw ad ca u47_rt u47_Sj u47_a0 u47_T1 u47_Rd u47_Pg u47_Pt u47_Mk u47_Lk u47_Ck u47_Jd u47_Ld u47_Pr)) hE.1 C (c_Tx_exponent_0 hE l u47_x1 u47_a0 u47_Sj u47_T1 u47_Rd u47_Pg u47_Pt u47_Mk u47_Lk u47_Ck u47_Jd u47_Ld u47_Pr u47_rt hq7) hP (hDD _ _ _ _ _ _ _ _ _ _ _ _ _) hS hl.1 rfl cw_1 k_5_66 k_5_67 k_5_68 k_1_2 k_5_69 hv_Tx_exponent rfl rfl ⟨(Nat.le_of_ble_eq_true rfl), (Nat.le_of_ble_eq_true rfl)⟩ rfl (Nat.le_of_ble_eq_true rfl) ⟨Nat.zero_le _, Nat.zero_le _⟩ rfl d_Tx_wholeNumber_55 (fun H locs hP hS => ?_)
  refine lv_iadd hx hb d_Tx_wholeNumber_58 ?_
  refine lv_icmp_ge (tgt := 80) hx hb d_Tx_wholeNumber_59 (by decide) (fun c5 => ?_) (fun c5 => ?_)
  · replace h := o_tt c5 h
    cases h
    exact h1 (Nat.succ_ne_zero 0) _ _ _ hP hS (lv_sub hl [2] rfl)
  · replace h := o_ff c5 h
    refine lv_iload_n hx hb d_Tx_wholeNumber_62 rfl (lv_at hl 2 rfl) ?_
    refine lv_bipush (v := (10:Int32)) hx hb d_Tx_wholeNumber_63 (by decide) ?_
    refine lv_imul hx hb d_Tx_wholeNumber_65 ?_
    refine lv_aload_n hx hb d_Tx_wholeNumber_66 rfl (lv_at hl 0 rfl) ?_
    refine lv_iload_n hx hb d_Tx_wholeNumber_67 rfl (lv_at hl 1 rfl) ?_
    refine lv_iload_n hx hb d_Tx_wholeNumber_68 rfl (lv_at hl 3 rfl) ?_
    obtain ⟨q8, hq8, h⟩ := o_bd_some h
    refine o_V (st1 := [.int q8, .int (z.1 * (10:Int32))]) (w1 := (o_cw ad ca u47_rt u47_Sj u47_a0 u47_T1 u47_Rd u47_Pg u47_Pt u47_Mk u47_Lk u47_Ck u47_Jd u47_Ld u47_Pr)) hE.1 C (c_Tx_cell_0 hE l u47_x1 z.2 u47_a0 u47_Sj u47_T1 u47_Rd u47_Pg u47_Pt u47_Mk u47_Lk u47_Ck u47_Jd u47_Ld u47_Pr u47_rt hq8) hP (hDD _ _ _ _ _ _ _ _ _ _ _ _ _) hS hl.1 rfl cw_1 k_5_70 k_4_117 k_4_118 k_1_2 k_4_119 hv_Tx_cell rfl rfl ⟨(Nat.le_of_ble_eq_true rfl), (Nat.le_of_ble_eq_true rfl)⟩ rfl (Nat.le_of_ble_eq_true rfl) ⟨Nat.zero_le _, Nat.zero_le _⟩ rfl d_Tx_wholeNumber_69 (fun H locs hP hS => ?_)
    refine lv_iadd hx hb d_Tx_wholeNumber_72 ?_
    refine lv_topi (fun x2_73 ex2_73 => ?_)
    replace h := o_nm_at ex2_73 h
    refine lv_istore_n (lv' := [(2, .int x2_73), (0, .ref (ad 1)), (1, .int u47_x1), (3, .int z.2)]) hx hb d_Tx_wholeNumber_73 rfl hl (by decide) rfl (fun ls hl => ?_)
    obtain ⟨x3_74, ex3_74⟩ : ∃ y : Int32, y = z.2 + (1:Int32) := ⟨_, rfl⟩
    replace h := o_nm_at ex3_74 h
    refine lv_iinc (v := x3_74) (lv' := [(3, .int x3_74), (2, .int x2_73), (0, .ref (ad 1)), (1, .int u47_x1)]) hx hb d_Tx_wholeNumber_74 hl (k := 3) rfl (by rw [ex3_74]; rfl) (by decide) rfl (fun ls hl => ?_)
    refine lv_goto (tgt := 47) hx hb d_Tx_wholeNumber_77 (by decide) ?_
    cases h
    exact h0 rfl _ _ _ hP hS (lv_sub hl [2, 3, 1, 0] rfl)
set_option maxHeartbeats 4000000 in
set_option maxRecDepth 100000 in
theorem c_Tx_wholeNumber_0 {E : (Nat → Prop) → State → Heap → Prop} {D : va_G} {ad kd sd vd xd : Nat → Nat} {ca : Nat → ClassId} (hE : o_EK E kd sd vd xd) (l : Launch) (n : Nat) (x1 : Int32) (a0 : STx) (Sj : SSJ) (T1 : STx) (Rd : SRd) (Pg : SPg) (Pt : SPt) (Mk : SMk) (Lk : SLk) (Ck : SCk) (Jd : SJd) (Ld : SLd) (Pr : SPr) (rt : Nat) {r : Int32} (h : m_Tx_wholeNumber n x1 a0 = some r) : o_Cn E l D o_cls (o_tys ca) y_Tx_wholeNumber cc_Tx_wholeNumber rm_Tx_wholeNumber [.ref (ad 1), .int x1] (o_cw ad ca rt Sj a0 T1 Rd Pg Pt Mk Lk Ck Jd Ld Pr) (o_cw ad ca rt Sj a0 T1 Rd Pg Pt Mk Lk Ck Jd Ld Pr) (some (.int r)) := by
  refine o_Cn_of (by decide) (Nat.le_of_ble_eq_true rfl) ?_
  intro p e s m below meth c A ls C hD hP hS hl
  have hDD : ∀ (rt : Nat) (Sj : SSJ) (T0 : STx) (T1 : STx) (Rd : SRd) (Pg : SPg) (Pt : SPt) (Mk : SMk) (Lk : SLk) (Ck : SCk) (Jd : SJd) (Ld : SLd) (Pr : SPr), va_D A (o_cw ad ca rt Sj T0 T1 Rd Pg Pt Mk Lk Ck Jd Ld Pr) := fun _ _ _ _ _ _ _ _ _ _ _ _ _ => o_D_map hD rfl
  have hl : lv_has ls 4 [(0, .ref (ad 1)), (1, .int x1)] := hl
  unfold m_Tx_wholeNumber at h
  have C0 := C
  obtain ⟨hx, hb, -, -, -, hown, hts, hK, -, -⟩ := C0
  refine lv_aload_n hx hb d_Tx_wholeNumber_0 rfl (lv_at hl 0 rfl) ?_
  refine lv_iload_n hx hb d_Tx_wholeNumber_1 rfl (lv_at hl 1 rfl) ?_
  obtain ⟨q1, hq1, h⟩ := o_bd_some h
  refine o_V (st1 := [.int q1]) (w1 := (o_cw ad ca rt Sj a0 T1 Rd Pg Pt Mk Lk Ck Jd Ld Pr)) hE.1 C (c_Tx_kind_0 hE l x1 a0 Sj T1 Rd Pg Pt Mk Lk Ck Jd Ld Pr rt hq1) hP (hDD _ _ _ _ _ _ _ _ _ _ _ _ _) hS hl.1 rfl cw_1 k_5_64 k_4_50 k_4_51 k_1_2 k_4_52 hv_Tx_kind rfl rfl ⟨(Nat.le_of_ble_eq_true rfl), (Nat.le_of_ble_eq_true rfl)⟩ rfl (Nat.le_of_ble_eq_true rfl) ⟨Nat.zero_le _, Nat.zero_le _⟩ rfl d_Tx_wholeNumber_2 (fun H locs hP hS => ?_)
  refine lv_iconst (v := (3:Int32)) hx hb d_Tx_wholeNumber_5 (by decide) ?_
  refine lv_icmp_ne (tgt := 41) hx hb d_Tx_wholeNumber_6 (by decide) (fun c1 => ?_) (fun c1 => ?_)
  · replace h := o_ff c1 h
    refine lv_iconst (v := (-1:Int32)) hx hb d_Tx_wholeNumber_41 (by decide) ?_
    cases h
    exact o_ri (v := (-1:Int32)) C hP hS d_Tx_wholeNumber_42
  · replace h := o_tt c1 h
    refine lv_aload_n hx hb d_Tx_wholeNumber_9 rfl (lv_at hl 0 rfl) ?_
    refine lv_iload_n hx hb d_Tx_wholeNumber_10 rfl (lv_at hl 1 rfl) ?_
    obtain ⟨q2, hq2, h⟩ := o_bd_some h
    refine o_V (st1 := [.int q2]) (w1 := (o_cw ad ca rt Sj a0 T1 Rd Pg Pt Mk Lk Ck Jd Ld Pr)) hE.1 C (c_Tx_sign_0 hE l x1 a0 Sj T1 Rd Pg Pt Mk Lk Ck Jd Ld Pr rt hq2) hP (hDD _ _ _ _ _ _ _ _ _ _ _ _ _) hS hl.1 rfl cw_1 k_5_65 k_5_57 k_5_58 k_1_2 k_5_59 hv_Tx_sign rfl rfl ⟨(Nat.le_of_ble_eq_true rfl), (Nat.le_of_ble_eq_true rfl)⟩ rfl (Nat.le_of_ble_eq_true rfl) ⟨Nat.zero_le _, Nat.zero_le _⟩ rfl d_Tx_wholeNumber_11 (fun H locs hP hS => ?_)
    refine lv_if_lt (tgt := 41) hx hb d_Tx_wholeNumber_14 (by decide) (fun c2 => ?_) (fun c2 => ?_)
    · replace h := o_tt c2 h
      refine lv_iconst (v := (-1:Int32)) hx hb d_Tx_wholeNumber_41 (by decide) ?_
      cases h
      exact o_ri (v := (-1:Int32)) C hP hS d_Tx_wholeNumber_42
    · replace h := o_ff c2 h
      refine lv_aload_n hx hb d_Tx_wholeNumber_17 rfl (lv_at hl 0 rfl) ?_
      refine lv_iload_n hx hb d_Tx_wholeNumber_18 rfl (lv_at hl 1 rfl) ?_
      obtain ⟨q3, hq3, h⟩ := o_bd_some h
      refine o_V (st1 := [.int q3]) (w1 := (o_cw ad ca rt Sj a0 T1 Rd Pg Pt Mk Lk Ck Jd Ld Pr)) hE.1 C (c_Tx_exponent_0 hE l x1 a0 Sj T1 Rd Pg Pt Mk Lk Ck Jd Ld Pr rt hq3) hP (hDD _ _ _ _ _ _ _ _ _ _ _ _ _) hS hl.1 rfl cw_1 k_5_66 k_5_67 k_5_68 k_1_2 k_5_69 hv_Tx_exponent rfl rfl ⟨(Nat.le_of_ble_eq_true rfl), (Nat.le_of_ble_eq_true rfl)⟩ rfl (Nat.le_of_ble_eq_true rfl) ⟨Nat.zero_le _, Nat.zero_le _⟩ rfl d_Tx_wholeNumber_19 (fun H locs hP hS => ?_)
      refine lv_if_lt (tgt := 41) hx hb d_Tx_wholeNumber_22 (by decide) (fun c3 => ?_) (fun c3 => ?_)
      · replace h := o_tt c3 h
        refine lv_iconst (v := (-1:Int32)) hx hb d_Tx_wholeNumber_41 (by decide) ?_
        cases h
        exact o_ri (v := (-1:Int32)) C hP hS d_Tx_wholeNumber_42
      · replace h := o_ff c3 h
        refine lv_aload_n hx hb d_Tx_wholeNumber_25 rfl (lv_at hl 0 rfl) ?_
        refine lv_iload_n hx hb d_Tx_wholeNumber_26 rfl (lv_at hl 1 rfl) ?_
        obtain ⟨q4, hq4, h⟩ := o_bd_some h
        refine o_V (st1 := [.int q4]) (w1 := (o_cw ad ca rt Sj a0 T1 Rd Pg Pt Mk Lk Ck Jd Ld Pr)) hE.1 C (c_Tx_size_0 hE l x1 a0 Sj T1 Rd Pg Pt Mk Lk Ck Jd Ld Pr rt hq4) hP (hDD _ _ _ _ _ _ _ _ _ _ _ _ _) hS hl.1 rfl cw_1 k_3_214 k_3_215 k_3_216 k_1_2 k_3_217 hv_Tx_size rfl rfl ⟨(Nat.le_of_ble_eq_true rfl), (Nat.le_of_ble_eq_true rfl)⟩ rfl (Nat.le_of_ble_eq_true rfl) ⟨Nat.zero_le _, Nat.zero_le _⟩ rfl d_Tx_wholeNumber_27 (fun H locs hP hS => ?_)
        refine lv_aload_n hx hb d_Tx_wholeNumber_30 rfl (lv_at hl 0 rfl) ?_
        refine lv_iload_n hx hb d_Tx_wholeNumber_31 rfl (lv_at hl 1 rfl) ?_
        obtain ⟨q5, hq5, h⟩ := o_bd_some h
        refine o_V (st1 := [.int q5, .int q4]) (w1 := (o_cw ad ca rt Sj a0 T1 Rd Pg Pt Mk Lk Ck Jd Ld Pr)) hE.1 C (c_Tx_exponent_0 hE l x1 a0 Sj T1 Rd Pg Pt Mk Lk Ck Jd Ld Pr rt hq5) hP (hDD _ _ _ _ _ _ _ _ _ _ _ _ _) hS hl.1 rfl cw_1 k_5_66 k_5_67 k_5_68 k_1_2 k_5_69 hv_Tx_exponent rfl rfl ⟨(Nat.le_of_ble_eq_true rfl), (Nat.le_of_ble_eq_true rfl)⟩ rfl (Nat.le_of_ble_eq_true rfl) ⟨Nat.zero_le _, Nat.zero_le _⟩ rfl d_Tx_wholeNumber_32 (fun H locs hP hS => ?_)
        refine lv_iadd hx hb d_Tx_wholeNumber_35 ?_
        refine lv_bipush (v := (7:Int32)) hx hb d_Tx_wholeNumber_36 (by decide) ?_
        refine lv_icmp_le (tgt := 43) hx hb d_Tx_wholeNumber_38 (by decide) (fun c4 => ?_) (fun c4 => ?_)
        · replace h := o_tt c4 h
          refine lv_iconst (v := (0:Int32)) hx hb d_Tx_wholeNumber_43 (by decide) ?_
          refine lv_istore_n (lv' := [(2, .int (0:Int32)), (0, .ref (ad 1)), (1, .int x1)]) hx hb d_Tx_wholeNumber_44 rfl hl (by decide) rfl (fun ls hl => ?_)
          refine lv_iconst (v := (0:Int32)) hx hb d_Tx_wholeNumber_45 (by decide) ?_
          refine lv_istore_n (lv' := [(3, .int (0:Int32)), (2, .int (0:Int32)), (0, .ref (ad 1)), (1, .int x1)]) hx hb d_Tx_wholeNumber_46 rfl hl (by decide) rfl (fun ls hl => ?_)
          obtain ⟨q9, hq9, h⟩ := o_bd_some h
          refine o_sim2 (AH := fun zz => o_At p l e rm_Tx_wholeNumber s m _ below meth c _ o_cls D A 4 47 [] (o_cw ad ca rt Sj a0 T1 Rd Pg Pt Mk Lk Ck Jd Ld Pr) [(0, .ref (ad 1)), (1, .int x1), (2, .int zz.1), (3, .int zz.2)]) (AX := fun qq => o_At p l e rm_Tx_wholeNumber s m _ below meth c _ o_cls D A 4 80 [] (o_cw ad ca rt Sj a0 T1 Rd Pg Pt Mk Lk Ck Jd Ld Pr) [(2, .int qq.2.1)]) (fun zz qq h h0 h1 => w_Tx_wholeNumber_b47_0 hE C hDD n x1 a0 Sj T1 Rd Pg Pt Mk Lk Ck Jd Ld Pr rt zz qq h h0 h1) n _ q9 hq9 ?_ _ _ _ hP hS (lv_sub hl [2, 3, 1, 0] rfl)
          intro H locs ls hP hS hl
          refine lv_iload_n hx hb d_Tx_wholeNumber_80 rfl (lv_at hl 0 rfl) ?_
          refine lv_ldc (v := (1000000:Int32)) hx hb hown (hts _ k_5_71) d_Tx_wholeNumber_81 ?_
          refine lv_icmp_le (tgt := 90) hx hb d_Tx_wholeNumber_83 (by decide) (fun c6 => ?_) (fun c6 => ?_)
          · replace h := o_tt c6 h
            refine lv_iload_n hx hb d_Tx_wholeNumber_90 rfl (lv_at hl 0 rfl) ?_
            cases h
            exact o_ri C hP hS d_Tx_wholeNumber_91
          · replace h := o_ff c6 h
            refine lv_iconst (v := (-1:Int32)) hx hb d_Tx_wholeNumber_86 (by decide) ?_
            refine lv_goto (tgt := 91) hx hb d_Tx_wholeNumber_87 (by decide) ?_
            cases h
            exact o_ri (v := (-1:Int32)) C hP hS d_Tx_wholeNumber_91
        · replace h := o_ff c4 h
          refine lv_iconst (v := (-1:Int32)) hx hb d_Tx_wholeNumber_41 (by decide) ?_
          cases h
          exact o_ri (v := (-1:Int32)) C hP hS d_Tx_wholeNumber_42
set_option maxHeartbeats 4000000 in
set_option maxRecDepth 100000 in
theorem w_Ck_inspectKeyword_j138 {E : (Nat → Prop) → State → Heap → Prop} {p : Program} {l : Launch} {e : Env} {s : State} {m : MethodId} {args : Array Value} {below : List Frame} {meth : Method} {c : Code} {D : va_G} {ad kd sd vd xd : Nat → Nat} {ca : Nat → ClassId} {A : Nat → Prop} (hE : o_EK E kd sd vd xd) (C : o_Cx E p s m args meth c D o_cls (o_tys ca) "SchemaJudge$Checker" b_Ck_inspectKeyword none 4 cc_Ck_inspectKeyword A) (hDD : ∀ (rt : Nat) (Sj : SSJ) (T0 : STx) (T1 : STx) (Rd : SRd) (Pg : SPg) (Pt : SPt) (Mk : SMk) (Lk : SLk) (Ck : SCk) (Jd : SJd) (Ld : SLd) (Pr : SPr), va_D A (o_cw ad ca rt Sj T0 T1 Rd Pg Pt Mk Lk Ck Jd Ld Pr)) (n : Nat) (y1 : Int32) (y2 : Int32) (T0 : STx) (Pg : SPg) (Pt : SPt) (Mk : SMk) (Ck : SCk) (Sj : SSJ) (T1 : STx) (Rd : SRd) (Lk : SLk) (Jd : SJd) (Ld : SLd) (Pr : SPr) (rt : Nat) {r : SPg × SPt × SMk × SCk} (h : m_Ck_inspectKeyword_j138 n y1 y2 T0 Pg Pt Mk Ck = some r) : o_At p l e rm_Ck_inspectKeyword s m args below meth c (MQ below (o_Qx D o_cls none (o_cw ad ca rt Sj T0 T1 Rd r.1 r.2.1 r.2.2.1 Lk r.2.2.2 Jd Ld Pr) A) args s 0 0 A) o_cls D A 4 138 [.int y2, .int y1, .ref (ad 45)] (o_cw ad ca rt Sj T0 T1 Rd Pg Pt Mk Lk Ck Jd Ld Pr) [] := by
  unfold m_Ck_inspectKeyword_j138 at h
  intro H locs ls hP hS hl
  have C0 := C
  obtain ⟨hx, hb, -, -, -, hown, hts, hK, -, -⟩ := C0
  obtain ⟨q4, hq4, h⟩ := o_bd_some h
  refine o_V (st1 := []) (w1 := (o_cw ad ca rt Sj T0 T1 Rd Pg Pt q4.1 Lk q4.2 Jd Ld Pr)) hE.1 C (c_Ck_takeSchemas hE l n y1 y2 T0 Mk Ck Sj T1 Rd Pg Pt Lk Jd Ld Pr rt hq4) hP (hDD _ _ _ _ _ _ _ _ _ _ _ _ _) hS hl.1 rfl cw_45 k_4_97 k_4_99 k_s_23 k_1_7 k_4_100 hv_Ck_takeSchemas rfl rfl ⟨(Nat.le_of_ble_eq_true rfl), (Nat.le_of_ble_eq_true rfl)⟩ rfl (Nat.le_of_ble_eq_true rfl) ⟨Nat.zero_le _, Nat.zero_le _⟩ rfl d_Ck_inspectKeyword_138 (fun H locs hP hS => ?_)
  refine lv_goto (tgt := 383) hx hb d_Ck_inspectKeyword_141 (by decide) ?_
  cases h
  exact o_rv C hP hS d_Ck_inspectKeyword_383
set_option maxHeartbeats 4000000 in
set_option maxRecDepth 100000 in
theorem w_Ck_inspectKeyword_j122 {E : (Nat → Prop) → State → Heap → Prop} {p : Program} {l : Launch} {e : Env} {s : State} {m : MethodId} {args : Array Value} {below : List Frame} {meth : Method} {c : Code} {D : va_G} {ad kd sd vd xd : Nat → Nat} {ca : Nat → ClassId} {A : Nat → Prop} (hE : o_EK E kd sd vd xd) (C : o_Cx E p s m args meth c D o_cls (o_tys ca) "SchemaJudge$Checker" b_Ck_inspectKeyword none 4 cc_Ck_inspectKeyword A) (hDD : ∀ (rt : Nat) (Sj : SSJ) (T0 : STx) (T1 : STx) (Rd : SRd) (Pg : SPg) (Pt : SPt) (Mk : SMk) (Lk : SLk) (Ck : SCk) (Jd : SJd) (Ld : SLd) (Pr : SPr), va_D A (o_cw ad ca rt Sj T0 T1 Rd Pg Pt Mk Lk Ck Jd Ld Pr)) (n : Nat) (x2 : Int32) (x3 : Int32) (y1 : Int32) (T0 : STx) (Pg : SPg) (Pt : SPt) (Mk : SMk) (Ck : SCk) (Sj : SSJ) (T1 : STx) (Rd : SRd) (Lk : SLk) (Jd : SJd) (Ld : SLd) (Pr : SPr) (rt : Nat) {r : SPg × SPt × SMk × SCk} (h : m_Ck_inspectKeyword_j122 n x2 x3 y1 T0 Pg Pt Mk Ck = some r) : o_At p l e rm_Ck_inspectKeyword s m args below meth c (MQ below (o_Qx D o_cls none (o_cw ad ca rt Sj T0 T1 Rd r.1 r.2.1 r.2.2.1 Lk r.2.2.2 Jd Ld Pr) A) args s 0 0 A) o_cls D A 4 122 [.int y1, .ref (ad 45)] (o_cw ad ca rt Sj T0 T1 Rd Pg Pt Mk Lk Ck Jd Ld Pr) [(0, .ref (ad 45)), (2, .int x2), (3, .int x3)] := by
  unfold m_Ck_inspectKeyword_j122 at h
  intro H locs ls hP hS hl
  have C0 := C
  obtain ⟨hx, hb, -, -, -, hown, hts, hK, -, -⟩ := C0
  refine lv_iload_n hx hb d_Ck_inspectKeyword_122 rfl (lv_at hl 1 rfl) ?_
  obtain ⟨q3, hq3, h⟩ := o_bd_some h
  refine o_V (st1 := []) (w1 := (o_cw ad ca rt Sj T0 T1 Rd Pg Pt Mk Lk q3 Jd Ld Pr)) hE.1 C (c_Ck_require hE l y1 x2 Ck Sj T0 T1 Rd Pg Pt Mk Lk Jd Ld Pr rt hq3) hP (hDD _ _ _ _ _ _ _ _ _ _ _ _ _) hS hl.1 rfl cw_45 k_4_53 k_4_55 k_s_19 k_1_7 k_4_56 hv_Ck_require rfl rfl ⟨(Nat.le_of_ble_eq_true rfl), (Nat.le_of_ble_eq_true rfl)⟩ rfl (Nat.le_of_ble_eq_true rfl) ⟨Nat.zero_le _, Nat.zero_le _⟩ rfl d_Ck_inspectKeyword_123 (fun H locs hP hS => ?_)
  refine lv_aload_n hx hb d_Ck_inspectKeyword_126 rfl (lv_at hl 0 rfl) ?_
  refine lv_iload_n hx hb d_Ck_inspectKeyword_127 rfl (lv_at hl 1 rfl) ?_
  refine lv_iload_n hx hb d_Ck_inspectKeyword_128 rfl (lv_at hl 2 rfl) ?_
  refine lv_iconst (v := (5:Int32)) hx hb d_Ck_inspectKeyword_129 (by decide) ?_
  refine lv_icmp_ne (tgt := 137) hx hb d_Ck_inspectKeyword_130 (by decide) (fun c4 => ?_) (fun c4 => ?_)
  · replace h := o_ff c4 h
    refine lv_iconst (v := (0:Int32)) hx hb d_Ck_inspectKeyword_137 (by decide) ?_
    exact w_Ck_inspectKeyword_j138 hE C hDD n x2 (0:Int32) T0 Pg Pt Mk q3 Sj T1 Rd Lk Jd Ld Pr rt h _ _ _ hP hS (lv_sub hl [] rfl)
  · replace h := o_tt c4 h
    refine lv_iconst (v := (1:Int32)) hx hb d_Ck_inspectKeyword_133 (by decide) ?_
    refine lv_goto (tgt := 138) hx hb d_Ck_inspectKeyword_134 (by decide) ?_
    exact w_Ck_inspectKeyword_j138 hE C hDD n x2 (1:Int32) T0 Pg Pt Mk q3 Sj T1 Rd Lk Jd Ld Pr rt h _ _ _ hP hS (lv_sub hl [] rfl)
set_option maxHeartbeats 4000000 in
set_option maxRecDepth 100000 in
theorem w_Ck_inspectKeyword_j173 {E : (Nat → Prop) → State → Heap → Prop} {p : Program} {l : Launch} {e : Env} {s : State} {m : MethodId} {args : Array Value} {below : List Frame} {meth : Method} {c : Code} {D : va_G} {ad kd sd vd xd : Nat → Nat} {ca : Nat → ClassId} {A : Nat → Prop} (hE : o_EK E kd sd vd xd) (C : o_Cx E p s m args meth c D o_cls (o_tys ca) "SchemaJudge$Checker" b_Ck_inspectKeyword none 4 cc_Ck_inspectKeyword A) (hDD : ∀ (rt : Nat) (Sj : SSJ) (T0 : STx) (T1 : STx) (Rd : SRd) (Pg : SPg) (Pt : SPt) (Mk : SMk) (Lk : SLk) (Ck : SCk) (Jd : SJd) (Ld : SLd) (Pr : SPr), va_D A (o_cw ad ca rt Sj T0 T1 Rd Pg Pt Mk Lk Ck Jd Ld Pr)) (n : Nat) (x1 : Nat) (gx1 : o_kb x1 = true) (x2 : Int32) (x3 : Int32) (y1 : Int32) (y2 : Int32) (T0 : STx) (Pg : SPg) (Pt : SPt) (Mk : SMk) (Ck : SCk) (Sj : SSJ) (T1 : STx) (Rd : SRd) (Lk : SLk) (Jd : SJd) (Ld : SLd) (Pr : SPr) (rt : Nat) {r : SPg × SPt × SMk × SCk} (h : m_Ck_inspectKeyword_j173 n x1 x2 x3 y1 y2 T0 Pg Pt Mk Ck = some r) : o_At p l e rm_Ck_inspectKeyword s m args below meth c (MQ below (o_Qx D o_cls none (o_cw ad ca rt Sj T0 T1 Rd r.1 r.2.1 r.2.2.1 Lk r.2.2.2 Jd Ld Pr) A) args s 0 0 A) o_cls D A 4 173 [.int y2, .int y1, .ref (ad 45)] (o_cw ad ca rt Sj T0 T1 Rd Pg Pt Mk Lk Ck Jd Ld Pr) [(0, .ref (ad 45)), (1, .ref (kd x1)), (2, .int x2), (3, .int x3)] := by
  unfold m_Ck_inspectKeyword_j173 at h
  intro H locs ls hP hS hl
  have C0 := C
  obtain ⟨hx, hb, -, -, -, hown, hts, hK, -, -⟩ := C0
  obtain ⟨q7, hq7, h⟩ := o_bd_some h
  refine o_V (st1 := []) (w1 := (o_cw ad ca rt Sj T0 T1 Rd Pg Pt q7.1 Lk q7.2 Jd Ld Pr)) hE.1 C (c_Ck_takeSchemas hE l n y1 y2 T0 Mk Ck Sj T1 Rd Pg Pt Lk Jd Ld Pr rt hq7) hP (hDD _ _ _ _ _ _ _ _ _ _ _ _ _) hS hl.1 rfl cw_45 k_4_97 k_4_99 k_s_23 k_1_7 k_4_100 hv_Ck_takeSchemas rfl rfl ⟨(Nat.le_of_ble_eq_true rfl), (Nat.le_of_ble_eq_true rfl)⟩ rfl (Nat.le_of_ble_eq_true rfl) ⟨Nat.zero_le _, Nat.zero_le _⟩ rfl d_Ck_inspectKeyword_173 (fun H locs hP hS => ?_)
  refine lv_aload_n hx hb d_Ck_inspectKeyword_176 rfl (lv_at hl 1 rfl) ?_
  refine va_gets (v := .ref (kd 17)) hx hb ((hE.2.2.1 _ _ _ C.2.2.2.2.2.2.2.2.2).1 17 (by decide)).1 hS hown (hts _ k_4_102) (fun _ h9 => h9) d_Ck_inspectKeyword_177 ?_
  refine lv_acmp_ne (rx := some (kd x1)) (ry := some (kd 17)) (tgt := 383) hx hb d_Ck_inspectKeyword_180 (by decide) (fun c9 => ?_) (fun c9 => ?_)
  · replace h := o_ff (o_kn_ c9) h
    cases h
    exact o_rv C hP hS d_Ck_inspectKeyword_383
  · replace h := o_tt (o_ki hE C gx1 rfl c9) h
    refine lv_iload_n hx hb d_Ck_inspectKeyword_183 rfl (lv_at hl 3 rfl) ?_
    refine lv_bipush (v := (6:Int32)) hx hb d_Ck_inspectKeyword_184 (by decide) ?_
    refine lv_icmp_ne (tgt := 383) hx hb d_Ck_inspectKeyword_186 (by decide) (fun c10 => ?_) (fun c10 => ?_)
    · replace h := o_ff c10 h
      cases h
      exact o_rv C hP hS d_Ck_inspectKeyword_383
    · replace h := o_tt c10 h
      refine lv_aload_n hx hb d_Ck_inspectKeyword_189 rfl (lv_at hl 0 rfl) ?_
      refine lv_iload_n hx hb d_Ck_inspectKeyword_190 rfl (lv_at hl 2 rfl) ?_
      obtain ⟨q8, hq8, h⟩ := o_bd_some h
      refine o_V (st1 := []) (w1 := (o_cw ad ca rt Sj T0 T1 Rd q8.1 q8.2.1 q7.1 Lk q8.2.2 Jd Ld Pr)) hE.1 C (c_Ck_inspectPatterns hE l n x2 T0 Pg Pt q7.2 Sj T1 Rd q7.1 Lk Jd Ld Pr rt hq8) hP (hDD _ _ _ _ _ _ _ _ _ _ _ _ _) hS hl.1 rfl cw_45 k_4_104 k_4_106 k_s_24 k_1_7 k_4_107 hv_Ck_inspectPatterns rfl rfl ⟨(Nat.le_of_ble_eq_true rfl), (Nat.le_of_ble_eq_true rfl)⟩ rfl (Nat.le_of_ble_eq_true rfl) ⟨Nat.zero_le _, Nat.zero_le _⟩ rfl d_Ck_inspectKeyword_191 (fun H locs hP hS => ?_)
      refine lv_goto (tgt := 383) hx hb d_Ck_inspectKeyword_194 (by decide) ?_
      cases h
      exact o_rv C hP hS d_Ck_inspectKeyword_383
set_option maxHeartbeats 4000000 in
set_option maxRecDepth 100000 in
theorem w_Ck_inspectKeyword_j156 {E : (Nat → Prop) → State → Heap → Prop} {p : Program} {l : Launch} {e : Env} {s : State} {m : MethodId} {args : Array Value} {below : List Frame} {meth : Method} {c : Code} {D : va_G} {ad kd sd vd xd : Nat → Nat} {ca : Nat → ClassId} {A : Nat → Prop} (hE : o_EK E kd sd vd xd) (C : o_Cx E p s m args meth c D o_cls (o_tys ca) "SchemaJudge$Checker" b_Ck_inspectKeyword none 4 cc_Ck_inspectKeyword A) (hDD : ∀ (rt : Nat) (Sj : SSJ) (T0 : STx) (T1 : STx) (Rd : SRd) (Pg : SPg) (Pt : SPt) (Mk : SMk) (Lk : SLk) (Ck : SCk) (Jd : SJd) (Ld : SLd) (Pr : SPr), va_D A (o_cw ad ca rt Sj T0 T1 Rd Pg Pt Mk Lk Ck Jd Ld Pr)) (n : Nat) (x1 : Nat) (gx1 : o_kb x1 = true) (x2 : Int32) (x3 : Int32) (y1 : Int32) (T0 : STx) (Pg : SPg) (Pt : SPt) (Mk : SMk) (Ck : SCk) (Sj : SSJ) (T1 : STx) (Rd : SRd) (Lk : SLk) (Jd : SJd) (Ld : SLd) (Pr : SPr) (rt : Nat) {r : SPg × SPt × SMk × SCk} (h : m_Ck_inspectKeyword_j156 n x1 x2 x3 y1 T0 Pg Pt Mk Ck = some r) : o_At p l e rm_Ck_inspectKeyword s m args below meth c (MQ below (o_Qx D o_cls none (o_cw ad ca rt Sj T0 T1 Rd r.1 r.2.1 r.2.2.1 Lk r.2.2.2 Jd Ld Pr) A) args s 0 0 A) o_cls D A 4 156 [.int y1, .ref (ad 45)] (o_cw ad ca rt Sj T0 T1 Rd Pg Pt Mk Lk Ck Jd Ld Pr) [(0, .ref (ad 45)), (1, .ref (kd x1)), (2, .int x2), (3, .int x3)] := by
  unfold m_Ck_inspectKeyword_j156 at h
  intro H locs ls hP hS hl
  have C0 := C
  obtain ⟨hx, hb, -, -, -, hown, hts, hK, -, -⟩ := C0
  refine lv_iload_n hx hb d_Ck_inspectKeyword_156 rfl (lv_at hl 2 rfl) ?_
  obtain ⟨q6, hq6, h⟩ := o_bd_some h
  refine o_V (st1 := []) (w1 := (o_cw ad ca rt Sj T0 T1 Rd Pg Pt Mk Lk q6 Jd Ld Pr)) hE.1 C (c_Ck_require hE l y1 x2 Ck Sj T0 T1 Rd Pg Pt Mk Lk Jd Ld Pr rt hq6) hP (hDD _ _ _ _ _ _ _ _ _ _ _ _ _) hS hl.1 rfl cw_45 k_4_53 k_4_55 k_s_19 k_1_7 k_4_56 hv_Ck_require rfl rfl ⟨(Nat.le_of_ble_eq_true rfl), (Nat.le_of_ble_eq_true rfl)⟩ rfl (Nat.le_of_ble_eq_true rfl) ⟨Nat.zero_le _, Nat.zero_le _⟩ rfl d_Ck_inspectKeyword_157 (fun H locs hP hS => ?_)
  refine lv_aload_n hx hb d_Ck_inspectKeyword_160 rfl (lv_at hl 0 rfl) ?_
  refine lv_iload_n hx hb d_Ck_inspectKeyword_161 rfl (lv_at hl 2 rfl) ?_
  refine lv_iload_n hx hb d_Ck_inspectKeyword_162 rfl (lv_at hl 3 rfl) ?_
  refine lv_bipush (v := (6:Int32)) hx hb d_Ck_inspectKeyword_163 (by decide) ?_
  refine lv_icmp_ne (tgt := 172) hx hb d_Ck_inspectKeyword_165 (by decide) (fun c8 => ?_) (fun c8 => ?_)
  · replace h := o_ff c8 h
    refine lv_iconst (v := (0:Int32)) hx hb d_Ck_inspectKeyword_172 (by decide) ?_
    exact w_Ck_inspectKeyword_j173 hE C hDD n x1 gx1 x2 x3 x2 (0:Int32) T0 Pg Pt Mk q6 Sj T1 Rd Lk Jd Ld Pr rt h _ _ _ hP hS (lv_sub hl [0, 1, 2, 3] rfl)
  · replace h := o_tt c8 h
    refine lv_iconst (v := (1:Int32)) hx hb d_Ck_inspectKeyword_168 (by decide) ?_
    refine lv_goto (tgt := 173) hx hb d_Ck_inspectKeyword_169 (by decide) ?_
    exact w_Ck_inspectKeyword_j173 hE C hDD n x1 gx1 x2 x3 x2 (1:Int32) T0 Pg Pt Mk q6 Sj T1 Rd Lk Jd Ld Pr rt h _ _ _ hP hS (lv_sub hl [0, 1, 2, 3] rfl)
set_option maxHeartbeats 4000000 in
set_option maxRecDepth 100000 in
theorem w_Ck_inspectKeyword_j208 {E : (Nat → Prop) → State → Heap → Prop} {p : Program} {l : Launch} {e : Env} {s : State} {m : MethodId} {args : Array Value} {below : List Frame} {meth : Method} {c : Code} {D : va_G} {ad kd sd vd xd : Nat → Nat} {ca : Nat → ClassId} {A : Nat → Prop} (hE : o_EK E kd sd vd xd) (C : o_Cx E p s m args meth c D o_cls (o_tys ca) "SchemaJudge$Checker" b_Ck_inspectKeyword none 4 cc_Ck_inspectKeyword A) (hDD : ∀ (rt : Nat) (Sj : SSJ) (T0 : STx) (T1 : STx) (Rd : SRd) (Pg : SPg) (Pt : SPt) (Mk : SMk) (Lk : SLk) (Ck : SCk) (Jd : SJd) (Ld : SLd) (Pr : SPr), va_D A (o_cw ad ca rt Sj T0 T1 Rd Pg Pt Mk Lk Ck Jd Ld Pr)) (n : Nat) (x2 : Int32) (y1 : Int32) (T0 : STx) (Pg : SPg) (Pt : SPt) (Mk : SMk) (Ck : SCk) (Sj : SSJ) (T1 : STx) (Rd : SRd) (Lk : SLk) (Jd : SJd) (Ld : SLd) (Pr : SPr) (rt : Nat) {r : SPg × SPt × SMk × SCk} (h : m_Ck_inspectKeyword_j208 n x2 y1 T0 Pg Pt Mk Ck = some r) : o_At p l e rm_Ck_inspectKeyword s m args below meth c (MQ below (o_Qx D o_cls none (o_cw ad ca rt Sj T0 T1 Rd r.1 r.2.1 r.2.2.1 Lk r.2.2.2 Jd Ld Pr) A) args s 0 0 A) o_cls D A 4 208 [.int y1, .ref (ad 45)] (o_cw ad ca rt Sj T0 T1 Rd Pg Pt Mk Lk Ck Jd Ld Pr) [(2, .int x2)] := by
  unfold m_Ck_inspectKeyword_j208 at h
  intro H locs ls hP hS hl
  have C0 := C
  obtain ⟨hx, hb, -, -, -, hown, hts, hK, -, -⟩ := C0
  refine lv_iload_n hx hb d_Ck_inspectKeyword_208 rfl (lv_at hl 0 rfl) ?_
  obtain ⟨q9, hq9, h⟩ := o_bd_some h
  refine o_V (st1 := []) (w1 := (o_cw ad ca rt Sj T0 T1 Rd Pg Pt Mk Lk q9 Jd Ld Pr)) hE.1 C (c_Ck_require hE l y1 x2 Ck Sj T0 T1 Rd Pg Pt Mk Lk Jd Ld Pr rt hq9) hP (hDD _ _ _ _ _ _ _ _ _ _ _ _ _) hS hl.1 rfl cw_45 k_4_53 k_4_55 k_s_19 k_1_7 k_4_56 hv_Ck_require rfl rfl ⟨(Nat.le_of_ble_eq_true rfl), (Nat.le_of_ble_eq_true rfl)⟩ rfl (Nat.le_of_ble_eq_true rfl) ⟨Nat.zero_le _, Nat.zero_le _⟩ rfl d_Ck_inspectKeyword_209 (fun H locs hP hS => ?_)
  refine lv_goto (tgt := 383) hx hb d_Ck_inspectKeyword_212 (by decide) ?_
  cases h
  exact o_rv C hP hS d_Ck_inspectKeyword_383
set_option maxHeartbeats 4000000 in
set_option maxRecDepth 100000 in
theorem w_Ck_inspectKeyword_j237 {E : (Nat → Prop) → State → Heap → Prop} {p : Program} {l : Launch} {e : Env} {s : State} {m : MethodId} {args : Array Value} {below : List Frame} {meth : Method} {c : Code} {D : va_G} {ad kd sd vd xd : Nat → Nat} {ca : Nat → ClassId} {A : Nat → Prop} (hE : o_EK E kd sd vd xd) (C : o_Cx E p s m args meth c D o_cls (o_tys ca) "SchemaJudge$Checker" b_Ck_inspectKeyword none 4 cc_Ck_inspectKeyword A) (hDD : ∀ (rt : Nat) (Sj : SSJ) (T0 : STx) (T1 : STx) (Rd : SRd) (Pg : SPg) (Pt : SPt) (Mk : SMk) (Lk : SLk) (Ck : SCk) (Jd : SJd) (Ld : SLd) (Pr : SPr), va_D A (o_cw ad ca rt Sj T0 T1 Rd Pg Pt Mk Lk Ck Jd Ld Pr)) (n : Nat) (x2 : Int32) (y1 : Int32) (T0 : STx) (Pg : SPg) (Pt : SPt) (Mk : SMk) (Ck : SCk) (Sj : SSJ) (T1 : STx) (Rd : SRd) (Lk : SLk) (Jd : SJd) (Ld : SLd) (Pr : SPr) (rt : Nat) {r : SPg × SPt × SMk × SCk} (h : m_Ck_inspectKeyword_j237 n x2 y1 T0 Pg Pt Mk Ck = some r) : o_At p l e rm_Ck_inspectKeyword s m args below meth c (MQ below (o_Qx D o_cls none (o_cw ad ca rt Sj T0 T1 Rd r.1 r.2.1 r.2.2.1 Lk r.2.2.2 Jd Ld Pr) A) args s 0 0 A) o_cls D A 4 237 [.int y1, .ref (ad 45)] (o_cw ad ca rt Sj T0 T1 Rd Pg Pt Mk Lk Ck Jd Ld Pr) [(2, .int x2)] := by
  unfold m_Ck_inspectKeyword_j237 at h
  intro H locs ls hP hS hl
  have C0 := C
  obtain ⟨hx, hb, -, -, -, hown, hts, hK, -, -⟩ := C0
  refine lv_iload_n hx hb d_Ck_inspectKeyword_237 rfl (lv_at hl 0 rfl) ?_
  obtain ⟨q10, hq10, h⟩ := o_bd_some h
  refine o_V (st1 := []) (w1 := (o_cw ad ca rt Sj T0 T1 Rd Pg Pt Mk Lk q10 Jd Ld Pr)) hE.1 C (c_Ck_require hE l y1 x2 Ck Sj T0 T1 Rd Pg Pt Mk Lk Jd Ld Pr rt hq10) hP (hDD _ _ _ _ _ _ _ _ _ _ _ _ _) hS hl.1 rfl cw_45 k_4_53 k_4_55 k_s_19 k_1_7 k_4_56 hv_Ck_require rfl rfl ⟨(Nat.le_of_ble_eq_true rfl), (Nat.le_of_ble_eq_true rfl)⟩ rfl (Nat.le_of_ble_eq_true rfl) ⟨Nat.zero_le _, Nat.zero_le _⟩ rfl d_Ck_inspectKeyword_238 (fun H locs hP hS => ?_)
  refine lv_goto (tgt := 383) hx hb d_Ck_inspectKeyword_241 (by decide) ?_
  cases h
  exact o_rv C hP hS d_Ck_inspectKeyword_383
set_option maxHeartbeats 4000000 in
set_option maxRecDepth 100000 in
theorem w_Ck_inspectKeyword_j262 {E : (Nat → Prop) → State → Heap → Prop} {p : Program} {l : Launch} {e : Env} {s : State} {m : MethodId} {args : Array Value} {below : List Frame} {meth : Method} {c : Code} {D : va_G} {ad kd sd vd xd : Nat → Nat} {ca : Nat → ClassId} {A : Nat → Prop} (hE : o_EK E kd sd vd xd) (C : o_Cx E p s m args meth c D o_cls (o_tys ca) "SchemaJudge$Checker" b_Ck_inspectKeyword none 4 cc_Ck_inspectKeyword A) (hDD : ∀ (rt : Nat) (Sj : SSJ) (T0 : STx) (T1 : STx) (Rd : SRd) (Pg : SPg) (Pt : SPt) (Mk : SMk) (Lk : SLk) (Ck : SCk) (Jd : SJd) (Ld : SLd) (Pr : SPr), va_D A (o_cw ad ca rt Sj T0 T1 Rd Pg Pt Mk Lk Ck Jd Ld Pr)) (n : Nat) (x2 : Int32) (y1 : Int32) (T0 : STx) (Pg : SPg) (Pt : SPt) (Mk : SMk) (Ck : SCk) (Sj : SSJ) (T1 : STx) (Rd : SRd) (Lk : SLk) (Jd : SJd) (Ld : SLd) (Pr : SPr) (rt : Nat) {r : SPg × SPt × SMk × SCk} (h : m_Ck_inspectKeyword_j262 n x2 y1 T0 Pg Pt Mk Ck = some r) : o_At p l e rm_Ck_inspectKeyword s m args below meth c (MQ below (o_Qx D o_cls none (o_cw ad ca rt Sj T0 T1 Rd r.1 r.2.1 r.2.2.1 Lk r.2.2.2 Jd Ld Pr) A) args s 0 0 A) o_cls D A 4 262 [.int y1, .ref (ad 45)] (o_cw ad ca rt Sj T0 T1 Rd Pg Pt Mk Lk Ck Jd Ld Pr) [(2, .int x2)] := by
  unfold m_Ck_inspectKeyword_j262 at h
  intro H locs ls hP hS hl
  have C0 := C
  obtain ⟨hx, hb, -, -, -, hown, hts, hK, -, -⟩ := C0
  refine lv_iload_n hx hb d_Ck_inspectKeyword_262 rfl (lv_at hl 0 rfl) ?_
  obtain ⟨q13, hq13, h⟩ := o_bd_some h
  refine o_V (st1 := []) (w1 := (o_cw ad ca rt Sj T0 T1 Rd Pg Pt Mk Lk q13 Jd Ld Pr)) hE.1 C (c_Ck_require hE l y1 x2 Ck Sj T0 T1 Rd Pg Pt Mk Lk Jd Ld Pr rt hq13) hP (hDD _ _ _ _ _ _ _ _ _ _ _ _ _) hS hl.1 rfl cw_45 k_4_53 k_4_55 k_s_19 k_1_7 k_4_56 hv_Ck_require rfl rfl ⟨(Nat.le_of_ble_eq_true rfl), (Nat.le_of_ble_eq_true rfl)⟩ rfl (Nat.le_of_ble_eq_true rfl) ⟨Nat.zero_le _, Nat.zero_le _⟩ rfl d_Ck_inspectKeyword_263 (fun H locs hP hS => ?_)
  refine lv_goto (tgt := 383) hx hb d_Ck_inspectKeyword_266 (by decide) ?_
  cases h
  exact o_rv C hP hS d_Ck_inspectKeyword_383
set_option maxHeartbeats 4000000 in
set_option maxRecDepth 100000 in
theorem w_Ck_inspectKeyword_j314 {E : (Nat → Prop) → State → Heap → Prop} {p : Program} {l : Launch} {e : Env} {s : State} {m : MethodId} {args : Array Value} {below : List Frame} {meth : Method} {c : Code} {D : va_G} {ad kd sd vd xd : Nat → Nat} {ca : Nat → ClassId} {A : Nat → Prop} (hE : o_EK E kd sd vd xd) (C : o_Cx E p s m args meth c D o_cls (o_tys ca) "SchemaJudge$Checker" b_Ck_inspectKeyword none 4 cc_Ck_inspectKeyword A) (hDD : ∀ (rt : Nat) (Sj : SSJ) (T0 : STx) (T1 : STx) (Rd : SRd) (Pg : SPg) (Pt : SPt) (Mk : SMk) (Lk : SLk) (Ck : SCk) (Jd : SJd) (Ld : SLd) (Pr : SPr), va_D A (o_cw ad ca rt Sj T0 T1 Rd Pg Pt Mk Lk Ck Jd Ld Pr)) (n : Nat) (x2 : Int32) (T0 : STx) (Pg : SPg) (Pt : SPt) (Mk : SMk) (Ck : SCk) (Sj : SSJ) (T1 : STx) (Rd : SRd) (Lk : SLk) (Jd : SJd) (Ld : SLd) (Pr : SPr) (rt : Nat) {r : SPg × SPt × SMk × SCk} (h : m_Ck_inspectKeyword_j314 n x2 T0 Pg Pt Mk Ck = some r) : o_At p l e rm_Ck_inspectKeyword s m args below meth c (MQ below (o_Qx D o_cls none (o_cw ad ca rt Sj T0 T1 Rd r.1 r.2.1 r.2.2.1 Lk r.2.2.2 Jd Ld Pr) A) args s 0 0 A) o_cls D A 4 314 [] (o_cw ad ca rt Sj T0 T1 Rd Pg Pt Mk Lk Ck Jd Ld Pr) [(0, .ref (ad 45)), (2, .int x2)] := by
  unfold m_Ck_inspectKeyword_j314 at h
  intro H locs ls hP hS hl
  have C0 := C
  obtain ⟨hx, hb, -, -, -, hown, hts, hK, -, -⟩ := C0
  refine lv_aload_n hx hb d_Ck_inspectKeyword_314 rfl (lv_at hl 0 rfl) ?_
  refine lv_iconst (v := (4:Int32)) hx hb d_Ck_inspectKeyword_315 (by decide) ?_
  refine lv_iload_n hx hb d_Ck_inspectKeyword_316 rfl (lv_at hl 1 rfl) ?_
  obtain ⟨q16, hq16, h⟩ := o_bd_some h
  refine o_V (st1 := []) (w1 := (o_cw ad ca rt Sj T0 T1 Rd Pg Pt Mk Lk q16 Jd Ld Pr)) hE.1 C (c_Ck_report hE l (4:Int32) x2 Ck Sj T0 T1 Rd Pg Pt Mk Lk Jd Ld Pr rt hq16) hP (hDD _ _ _ _ _ _ _ _ _ _ _ _ _) hS hl.1 rfl cw_45 k_4_57 k_4_59 k_s_20 k_1_7 k_4_60 hv_Ck_report rfl rfl ⟨(Nat.le_of_ble_eq_true rfl), (Nat.le_of_ble_eq_true rfl)⟩ rfl (Nat.le_of_ble_eq_true rfl) ⟨Nat.zero_le _, Nat.zero_le _⟩ rfl d_Ck_inspectKeyword_317 (fun H locs hP hS => ?_)
  refine lv_goto (tgt := 383) hx hb d_Ck_inspectKeyword_320 (by decide) ?_
  cases h
  exact o_rv C hP hS d_Ck_inspectKeyword_383
set_option maxHeartbeats 4000000 in
set_option maxRecDepth 100000 in
theorem w_Ck_inspectKeyword_j280 {E : (Nat → Prop) → State → Heap → Prop} {p : Program} {l : Launch} {e : Env} {s : State} {m : MethodId} {args : Array Value} {below : List Frame} {meth : Method} {c : Code} {D : va_G} {ad kd sd vd xd : Nat → Nat} {ca : Nat → ClassId} {A : Nat → Prop} (hE : o_EK E kd sd vd xd) (C : o_Cx E p s m args meth c D o_cls (o_tys ca) "SchemaJudge$Checker" b_Ck_inspectKeyword none 4 cc_Ck_inspectKeyword A) (hDD : ∀ (rt : Nat) (Sj : SSJ) (T0 : STx) (T1 : STx) (Rd : SRd) (Pg : SPg) (Pt : SPt) (Mk : SMk) (Lk : SLk) (Ck : SCk) (Jd : SJd) (Ld : SLd) (Pr : SPr), va_D A (o_cw ad ca rt Sj T0 T1 Rd Pg Pt Mk Lk Ck Jd Ld Pr)) (n : Nat) (x2 : Int32) (x3 : Int32) (y1 : Int32) (T0 : STx) (Pg : SPg) (Pt : SPt) (Mk : SMk) (Ck : SCk) (Sj : SSJ) (T1 : STx) (Rd : SRd) (Lk : SLk) (Jd : SJd) (Ld : SLd) (Pr : SPr) (rt : Nat) {r : SPg × SPt × SMk × SCk} (h : m_Ck_inspectKeyword_j280 n x2 x3 y1 T0 Pg Pt Mk Ck = some r) : o_At p l e rm_Ck_inspectKeyword s m args below meth c (MQ below (o_Qx D o_cls none (o_cw ad ca rt Sj T0 T1 Rd r.1 r.2.1 r.2.2.1 Lk r.2.2.2 Jd Ld Pr) A) args s 0 0 A) o_cls D A 4 280 [.int y1, .ref (ad 45)] (o_cw ad ca rt Sj T0 T1 Rd Pg Pt Mk Lk Ck Jd Ld Pr) [(0, .ref (ad 45)), (2, .int x2), (3, .int x3)] := by
  unfold m_Ck_inspectKeyword_j280 at h
  intro H locs ls hP hS hl
  have C0 := C
  obtain ⟨hx, hb, -, -, -, hown, hts, hK, -, -⟩ := C0
  refine lv_iload_n hx hb d_Ck_inspectKeyword_280 rfl (lv_at hl 1 rfl) ?_
  obtain ⟨q14, hq14, h⟩ := o_bd_some h
  refine o_V (st1 := []) (w1 := (o_cw ad ca rt Sj T0 T1 Rd Pg Pt Mk Lk q14 Jd Ld Pr)) hE.1 C (c_Ck_require hE l y1 x2 Ck Sj T0 T1 Rd Pg Pt Mk Lk Jd Ld Pr rt hq14) hP (hDD _ _ _ _ _ _ _ _ _ _ _ _ _) hS hl.1 rfl cw_45 k_4_53 k_4_55 k_s_19 k_1_7 k_4_56 hv_Ck_require rfl rfl ⟨(Nat.le_of_ble_eq_true rfl), (Nat.le_of_ble_eq_true rfl)⟩ rfl (Nat.le_of_ble_eq_true rfl) ⟨Nat.zero_le _, Nat.zero_le _⟩ rfl d_Ck_inspectKeyword_281 (fun H locs hP hS => ?_)
  refine lv_iload_n hx hb d_Ck_inspectKeyword_284 rfl (lv_at hl 2 rfl) ?_
  refine lv_iconst (v := (4:Int32)) hx hb d_Ck_inspectKeyword_285 (by decide) ?_
  refine lv_icmp_ne (tgt := 383) hx hb d_Ck_inspectKeyword_286 (by decide) (fun c20 => ?_) (fun c20 => ?_)
  · replace h := o_ff c20 h
    cases h
    exact o_rv C hP hS d_Ck_inspectKeyword_383
  · replace h := o_tt c20 h
    refine lv_aload_n hx hb d_Ck_inspectKeyword_289 rfl (lv_at hl 0 rfl) ?_
    refine o_get (v := .ref (ad 33)) C in_Ck hP 45 cw_45 rfl 2 (by decide) k_2_9 rfl rfl d_Ck_inspectKeyword_290 ?_
    refine lv_aload_n hx hb d_Ck_inspectKeyword_293 rfl (lv_at hl 0 rfl) ?_
    refine o_get (v := .ref (ad 1)) C in_Ck hP 45 cw_45 rfl 0 (by decide) k_2_7 rfl rfl d_Ck_inspectKeyword_294 ?_
    refine lv_iload_n hx hb d_Ck_inspectKeyword_297 rfl (lv_at hl 1 rfl) ?_
    obtain ⟨q15, hq15, h⟩ := o_bd_some h
    refine o_V (st1 := [.int q15.1]) (w1 := (o_cw ad ca rt Sj T0 T1 Rd Pg q15.2 Mk Lk q14 Jd Ld Pr)) hE.1 C (c_Pt_tokenise_0 hE l n x2 T0 Pt Sj T1 Rd Pg Mk Lk q14 Jd Ld Pr rt hq15) hP (hDD _ _ _ _ _ _ _ _ _ _ _ _ _) hS hl.1 rfl cw_33 k_4_108 k_4_109 k_4_110 k_1_5 k_4_111 hv_Pt_tokenise rfl rfl ⟨(Nat.le_of_ble_eq_true rfl), (Nat.le_of_ble_eq_true rfl)⟩ rfl (Nat.le_of_ble_eq_true rfl) ⟨Nat.zero_le _, Nat.zero_le _⟩ rfl d_Ck_inspectKeyword_298 (fun H locs hP hS => ?_)
    refine lv_if_eq (tgt := 314) hx hb d_Ck_inspectKeyword_301 (by decide) (fun c21 => ?_) (fun c21 => ?_)
    · replace h := o_tt c21 h
      exact w_Ck_inspectKeyword_j314 hE C hDD n x2 T0 Pg q15.2 Mk q14 Sj T1 Rd Lk Jd Ld Pr rt h _ _ _ hP hS (lv_sub hl [0, 1] rfl)
    · replace h := o_ff c21 h
      refine lv_aload_n hx hb d_Ck_inspectKeyword_304 rfl (lv_at hl 0 rfl) ?_
      refine o_get (v := .ref (ad 33)) C in_Ck hP 45 cw_45 rfl 2 (by decide) k_2_9 rfl rfl d_Ck_inspectKeyword_305 ?_
      obtain ⟨q17, hq17, h⟩ := o_bd_some h
      refine o_V (st1 := [.int q17.1]) (w1 := (o_cw ad ca rt Sj T0 T1 Rd q17.2.1 q17.2.2 Mk Lk q14 Jd Ld Pr)) hE.1 C (c_Pt_parse hE l n Pg q15.2 Sj T0 T1 Rd Mk Lk q14 Jd Ld Pr rt hq17) hP (hDD _ _ _ _ _ _ _ _ _ _ _ _ _) hS hl.1 rfl cw_33 k_4_202 k_4_203 k_4_204 k_1_5 k_4_205 hv_Pt_parse rfl rfl ⟨(Nat.le_of_ble_eq_true rfl), (Nat.le_of_ble_eq_true rfl)⟩ rfl (Nat.le_of_ble_eq_true rfl) ⟨Nat.zero_le _, Nat.zero_le _⟩ rfl d_Ck_inspectKeyword_308 (fun H locs hP hS => ?_)
      refine lv_if_ne (tgt := 383) hx hb d_Ck_inspectKeyword_311 (by decide) (fun c22 => ?_) (fun c22 => ?_)
      · replace h := o_ff c22 h
        cases h
        exact o_rv C hP hS d_Ck_inspectKeyword_383
      · replace h := o_tt c22 h
        exact w_Ck_inspectKeyword_j314 hE C hDD n x2 T0 q17.2.1 q17.2.2 Mk q14 Sj T1 Rd Lk Jd Ld Pr rt h _ _ _ hP hS (lv_sub hl [0, 1] rfl)
set_option maxHeartbeats 4000000 in
set_option maxRecDepth 100000 in
theorem w_Ck_inspectKeyword_j334 {E : (Nat → Prop) → State → Heap → Prop} {p : Program} {l : Launch} {e : Env} {s : State} {m : MethodId} {args : Array Value} {below : List Frame} {meth : Method} {c : Code} {D : va_G} {ad kd sd vd xd : Nat → Nat} {ca : Nat → ClassId} {A : Nat → Prop} (hE : o_EK E kd sd vd xd) (C : o_Cx E p s m args meth c D o_cls (o_tys ca) "SchemaJudge$Checker" b_Ck_inspectKeyword none 4 cc_Ck_inspectKeyword A) (hDD : ∀ (rt : Nat) (Sj : SSJ) (T0 : STx) (T1 : STx) (Rd : SRd) (Pg : SPg) (Pt : SPt) (Mk : SMk) (Lk : SLk) (Ck : SCk) (Jd : SJd) (Ld : SLd) (Pr : SPr), va_D A (o_cw ad ca rt Sj T0 T1 Rd Pg Pt Mk Lk Ck Jd Ld Pr)) (n : Nat) (x2 : Int32) (y1 : Int32) (T0 : STx) (Pg : SPg) (Pt : SPt) (Mk : SMk) (Ck : SCk) (Sj : SSJ) (T1 : STx) (Rd : SRd) (Lk : SLk) (Jd : SJd) (Ld : SLd) (Pr : SPr) (rt : Nat) {r : SPg × SPt × SMk × SCk} (h : m_Ck_inspectKeyword_j334 n x2 y1 T0 Pg Pt Mk Ck = some r) : o_At p l e rm_Ck_inspectKeyword s m args below meth c (MQ below (o_Qx D o_cls none (o_cw ad ca rt Sj T0 T1 Rd r.1 r.2.1 r.2.2.1 Lk r.2.2.2 Jd Ld Pr) A) args s 0 0 A) o_cls D A 4 334 [.int y1, .ref (ad 45)] (o_cw ad ca rt Sj T0 T1 Rd Pg Pt Mk Lk Ck Jd Ld Pr) [(2, .int x2)] := by
  unfold m_Ck_inspectKeyword_j334 at h
  intro H locs ls hP hS hl
  have C0 := C
  obtain ⟨hx, hb, -, -, -, hown, hts, hK, -, -⟩ := C0
  refine lv_iload_n hx hb d_Ck_inspectKeyword_334 rfl (lv_at hl 0 rfl) ?_
  obtain ⟨q18, hq18, h⟩ := o_bd_some h
  refine o_V (st1 := []) (w1 := (o_cw ad ca rt Sj T0 T1 Rd Pg Pt Mk Lk q18 Jd Ld Pr)) hE.1 C (c_Ck_require hE l y1 x2 Ck Sj T0 T1 Rd Pg Pt Mk Lk Jd Ld Pr rt hq18) hP (hDD _ _ _ _ _ _ _ _ _ _ _ _ _) hS hl.1 rfl cw_45 k_4_53 k_4_55 k_s_19 k_1_7 k_4_56 hv_Ck_require rfl rfl ⟨(Nat.le_of_ble_eq_true rfl), (Nat.le_of_ble_eq_true rfl)⟩ rfl (Nat.le_of_ble_eq_true rfl) ⟨Nat.zero_le _, Nat.zero_le _⟩ rfl d_Ck_inspectKeyword_335 (fun H locs hP hS => ?_)
  refine lv_goto (tgt := 383) hx hb d_Ck_inspectKeyword_338 (by decide) ?_
  cases h
  exact o_rv C hP hS d_Ck_inspectKeyword_383
set_option maxHeartbeats 4000000 in
set_option maxRecDepth 100000 in
theorem w_Ck_inspectKeyword_j360 {E : (Nat → Prop) → State → Heap → Prop} {p : Program} {l : Launch} {e : Env} {s : State} {m : MethodId} {args : Array Value} {below : List Frame} {meth : Method} {c : Code} {D : va_G} {ad kd sd vd xd : Nat → Nat} {ca : Nat → ClassId} {A : Nat → Prop} (hE : o_EK E kd sd vd xd) (C : o_Cx E p s m args meth c D o_cls (o_tys ca) "SchemaJudge$Checker" b_Ck_inspectKeyword none 4 cc_Ck_inspectKeyword A) (hDD : ∀ (rt : Nat) (Sj : SSJ) (T0 : STx) (T1 : STx) (Rd : SRd) (Pg : SPg) (Pt : SPt) (Mk : SMk) (Lk : SLk) (Ck : SCk) (Jd : SJd) (Ld : SLd) (Pr : SPr), va_D A (o_cw ad ca rt Sj T0 T1 Rd Pg Pt Mk Lk Ck Jd Ld Pr)) (n : Nat) (x2 : Int32) (y1 : Int32) (T0 : STx) (Pg : SPg) (Pt : SPt) (Mk : SMk) (Ck : SCk) (Sj : SSJ) (T1 : STx) (Rd : SRd) (Lk : SLk) (Jd : SJd) (Ld : SLd) (Pr : SPr) (rt : Nat) {r : SPg × SPt × SMk × SCk} (h : m_Ck_inspectKeyword_j360 n x2 y1 T0 Pg Pt Mk Ck = some r) : o_At p l e rm_Ck_inspectKeyword s m args below meth c (MQ below (o_Qx D o_cls none (o_cw ad ca rt Sj T0 T1 Rd r.1 r.2.1 r.2.2.1 Lk r.2.2.2 Jd Ld Pr) A) args s 0 0 A) o_cls D A 4 360 [.int y1, .ref (ad 45)] (o_cw ad ca rt Sj T0 T1 Rd Pg Pt Mk Lk Ck Jd Ld Pr) [(2, .int x2)] := by
  unfold m_Ck_inspectKeyword_j360 at h
  intro H locs ls hP hS hl
  have C0 := C
  obtain ⟨hx, hb, -, -, -, hown, hts, hK, -, -⟩ := C0
  refine lv_iload_n hx hb d_Ck_inspectKeyword_360 rfl (lv_at hl 0 rfl) ?_
  obtain ⟨q19, hq19, h⟩ := o_bd_some h
  refine o_V (st1 := []) (w1 := (o_cw ad ca rt Sj T0 T1 Rd Pg Pt Mk Lk q19 Jd Ld Pr)) hE.1 C (c_Ck_require hE l y1 x2 Ck Sj T0 T1 Rd Pg Pt Mk Lk Jd Ld Pr rt hq19) hP (hDD _ _ _ _ _ _ _ _ _ _ _ _ _) hS hl.1 rfl cw_45 k_4_53 k_4_55 k_s_19 k_1_7 k_4_56 hv_Ck_require rfl rfl ⟨(Nat.le_of_ble_eq_true rfl), (Nat.le_of_ble_eq_true rfl)⟩ rfl (Nat.le_of_ble_eq_true rfl) ⟨Nat.zero_le _, Nat.zero_le _⟩ rfl d_Ck_inspectKeyword_361 (fun H locs hP hS => ?_)
  refine lv_goto (tgt := 383) hx hb d_Ck_inspectKeyword_364 (by decide) ?_
  cases h
  exact o_rv C hP hS d_Ck_inspectKeyword_383
set_option maxHeartbeats 4000000 in
set_option maxRecDepth 100000 in
theorem c_Ck_inspectKeyword {E : (Nat → Prop) → State → Heap → Prop} {D : va_G} {ad kd sd vd xd : Nat → Nat} {ca : Nat → ClassId} (hE : o_EK E kd sd vd xd) (l : Launch) (n : Nat) (x1 : Nat) (gx1 : o_kb x1 = true) (x2 : Int32) (T0 : STx) (Pg : SPg) (Pt : SPt) (Mk : SMk) (Ck : SCk) (Sj : SSJ) (T1 : STx) (Rd : SRd) (Lk : SLk) (Jd : SJd) (Ld : SLd) (Pr : SPr) (rt : Nat) {r : SPg × SPt × SMk × SCk} (h : m_Ck_inspectKeyword n x1 x2 T0 Pg Pt Mk Ck = some r) : o_Cn E l D o_cls (o_tys ca) y_Ck_inspectKeyword cc_Ck_inspectKeyword rm_Ck_inspectKeyword [.ref (ad 45), .ref (kd x1), .int x2] (o_cw ad ca rt Sj T0 T1 Rd Pg Pt Mk Lk Ck Jd Ld Pr) (o_cw ad ca rt Sj T0 T1 Rd r.1 r.2.1 r.2.2.1 Lk r.2.2.2 Jd Ld Pr) none := by
  refine o_Cn_of (by decide) (Nat.le_of_ble_eq_true rfl) ?_
  intro p e s m below meth c A ls C hD hP hS hl
  have hDD : ∀ (rt : Nat) (Sj : SSJ) (T0 : STx) (T1 : STx) (Rd : SRd) (Pg : SPg) (Pt : SPt) (Mk : SMk) (Lk : SLk) (Ck : SCk) (Jd : SJd) (Ld : SLd) (Pr : SPr), va_D A (o_cw ad ca rt Sj T0 T1 Rd Pg Pt Mk Lk Ck Jd Ld Pr) := fun _ _ _ _ _ _ _ _ _ _ _ _ _ => o_D_map hD rfl
  have hl : lv_has ls 4 [(0, .ref (ad 45)), (1, .ref (kd x1)), (2, .int x2)] := hl
  unfold m_Ck_inspectKeyword at h
  have C0 := C
  obtain ⟨hx, hb, -, -, -, hown, hts, hK, -, -⟩ := C0
  refine lv_aload_n hx hb d_Ck_inspectKeyword_0 rfl (lv_at hl 0 rfl) ?_
  refine o_get (v := .ref (ad 1)) C in_Ck hP 45 cw_45 rfl 0 (by decide) k_2_7 rfl rfl d_Ck_inspectKeyword_1 ?_
  refine lv_iload_n hx hb d_Ck_inspectKeyword_4 rfl (lv_at hl 2 rfl) ?_
  obtain ⟨q1, hq1, h⟩ := o_bd_some h
  refine o_V (st1 := [.int q1]) (w1 := (o_cw ad ca rt Sj T0 T1 Rd Pg Pt Mk Lk Ck Jd Ld Pr)) hE.1 C (c_Tx_kind_0 hE l x2 T0 Sj T1 Rd Pg Pt Mk Lk Ck Jd Ld Pr rt hq1) hP (hDD _ _ _ _ _ _ _ _ _ _ _ _ _) hS hl.1 rfl cw_1 k_4_96 k_4_50 k_4_51 k_1_2 k_4_52 hv_Tx_kind rfl rfl ⟨(Nat.le_of_ble_eq_true rfl), (Nat.le_of_ble_eq_true rfl)⟩ rfl (Nat.le_of_ble_eq_true rfl) ⟨Nat.zero_le _, Nat.zero_le _⟩ rfl d_Ck_inspectKeyword_5 (fun H locs hP hS => ?_)
  refine lv_istore_n (lv' := [(3, .int q1), (0, .ref (ad 45)), (1, .ref (kd x1)), (2, .int x2)]) hx hb d_Ck_inspectKeyword_8 rfl hl (by decide) rfl (fun ls hl => ?_)
  refine lv_aload_n hx hb d_Ck_inspectKeyword_9 rfl (lv_at hl 2 rfl) ?_
  refine o_gkN (fi := 1) (v := (kw_form x1)) hE C gx1 hS rfl rfl nw_22 d_Ck_inspectKeyword_10 ?_
  refine lv_topi (fun w13 ew13 => ?_)
  replace h := o_nm_at ew13 h
  by_cases c1 : w13 = (1:Int32)
  · replace h := o_tt c1 h
    refine lv_tableIn (off := 79) (tgt := 92) hx hb d_Ck_inspectKeyword_13 (by rw [c1]; decide) (by rw [c1]; decide) (by rw [c1]; rfl) (by decide) ?_
    refine lv_aload_n hx hb d_Ck_inspectKeyword_92 rfl (lv_at hl 1 rfl) ?_
    refine lv_iload_n hx hb d_Ck_inspectKeyword_93 rfl (lv_at hl 3 rfl) ?_
    obtain ⟨q2, hq2, h⟩ := o_bd_some h
    refine o_V (st1 := []) (w1 := (o_cw ad ca rt Sj T0 T1 Rd Pg Pt q2.1 Lk q2.2 Jd Ld Pr)) hE.1 C (c_Ck_takeSchema hE l x2 T0 Mk Ck Sj T1 Rd Pg Pt Lk Jd Ld Pr rt hq2) hP (hDD _ _ _ _ _ _ _ _ _ _ _ _ _) hS hl.1 rfl cw_45 k_4_41 k_4_43 k_s_18 k_1_7 k_4_44 hv_Ck_takeSchema rfl rfl ⟨(Nat.le_of_ble_eq_true rfl), (Nat.le_of_ble_eq_true rfl)⟩ rfl (Nat.le_of_ble_eq_true rfl) ⟨Nat.zero_le _, Nat.zero_le _⟩ rfl d_Ck_inspectKeyword_94 (fun H locs hP hS => ?_)
    refine lv_goto (tgt := 383) hx hb d_Ck_inspectKeyword_97 (by decide) ?_
    cases h
    exact o_rv C hP hS d_Ck_inspectKeyword_383
  replace h := o_ff c1 h
  by_cases c2 : w13 = (2:Int32)
  · replace h := o_tt c2 h
    refine lv_tableIn (off := 87) (tgt := 100) hx hb d_Ck_inspectKeyword_13 (by rw [c2]; decide) (by rw [c2]; decide) (by rw [c2]; rfl) (by decide) ?_
    refine lv_aload_n hx hb d_Ck_inspectKeyword_100 rfl (lv_at hl 1 rfl) ?_
    refine lv_iload_n hx hb d_Ck_inspectKeyword_101 rfl (lv_at hl 0 rfl) ?_
    refine lv_iconst (v := (5:Int32)) hx hb d_Ck_inspectKeyword_102 (by decide) ?_
    refine lv_icmp_ne (tgt := 121) hx hb d_Ck_inspectKeyword_103 (by decide) (fun c3 => ?_) (fun c3 => ?_)
    · replace h := o_ff c3 h
      refine lv_iconst (v := (0:Int32)) hx hb d_Ck_inspectKeyword_121 (by decide) ?_
      exact w_Ck_inspectKeyword_j122 hE C hDD n x2 q1 (0:Int32) T0 Pg Pt Mk Ck Sj T1 Rd Lk Jd Ld Pr rt h _ _ _ hP hS (lv_sub hl [1, 3, 0] rfl)
    · replace h := o_tt c3 h
      refine lv_aload_n hx hb d_Ck_inspectKeyword_106 rfl (lv_at hl 1 rfl) ?_
      refine o_get (v := .ref (ad 1)) C in_Ck hP 45 cw_45 rfl 0 (by decide) k_2_7 rfl rfl d_Ck_inspectKeyword_107 ?_
      refine lv_iload_n hx hb d_Ck_inspectKeyword_110 rfl (lv_at hl 3 rfl) ?_
      obtain ⟨q5, hq5, h⟩ := o_bd_some h
      refine o_V (st1 := [.int q5, .ref (ad 45)]) (w1 := (o_cw ad ca rt Sj T0 T1 Rd Pg Pt Mk Lk Ck Jd Ld Pr)) hE.1 C (c_Tx_size_0 hE l x2 T0 Sj T1 Rd Pg Pt Mk Lk Ck Jd Ld Pr rt hq5) hP (hDD _ _ _ _ _ _ _ _ _ _ _ _ _) hS hl.1 rfl cw_1 k_4_71 k_3_215 k_3_216 k_1_2 k_3_217 hv_Tx_size rfl rfl ⟨(Nat.le_of_ble_eq_true rfl), (Nat.le_of_ble_eq_true rfl)⟩ rfl (Nat.le_of_ble_eq_true rfl) ⟨Nat.zero_le _, Nat.zero_le _⟩ rfl d_Ck_inspectKeyword_111 (fun H locs hP hS => ?_)
      refine lv_if_le (tgt := 121) hx hb d_Ck_inspectKeyword_114 (by decide) (fun c5 => ?_) (fun c5 => ?_)
      · replace h := o_tt c5 h
        refine lv_iconst (v := (0:Int32)) hx hb d_Ck_inspectKeyword_121 (by decide) ?_
        exact w_Ck_inspectKeyword_j122 hE C hDD n x2 q1 (0:Int32) T0 Pg Pt Mk Ck Sj T1 Rd Lk Jd Ld Pr rt h _ _ _ hP hS (lv_sub hl [1, 3, 0] rfl)
      · replace h := o_ff c5 h
        refine lv_iconst (v := (1:Int32)) hx hb d_Ck_inspectKeyword_117 (by decide) ?_
        refine lv_goto (tgt := 122) hx hb d_Ck_inspectKeyword_118 (by decide) ?_
        exact w_Ck_inspectKeyword_j122 hE C hDD n x2 q1 (1:Int32) T0 Pg Pt Mk Ck Sj T1 Rd Lk Jd Ld Pr rt h _ _ _ hP hS (lv_sub hl [1, 3, 0] rfl)
  replace h := o_ff c2 h
  by_cases c6 : w13 = (3:Int32)
  · replace h := o_tt c6 h
    refine lv_tableIn (off := 131) (tgt := 144) hx hb d_Ck_inspectKeyword_13 (by rw [c6]; decide) (by rw [c6]; decide) (by rw [c6]; rfl) (by decide) ?_
    refine lv_aload_n hx hb d_Ck_inspectKeyword_144 rfl (lv_at hl 1 rfl) ?_
    refine lv_iload_n hx hb d_Ck_inspectKeyword_145 rfl (lv_at hl 0 rfl) ?_
    refine lv_bipush (v := (6:Int32)) hx hb d_Ck_inspectKeyword_146 (by decide) ?_
    refine lv_icmp_ne (tgt := 155) hx hb d_Ck_inspectKeyword_148 (by decide) (fun c7 => ?_) (fun c7 => ?_)
    · replace h := o_ff c7 h
      refine lv_iconst (v := (0:Int32)) hx hb d_Ck_inspectKeyword_155 (by decide) ?_
      exact w_Ck_inspectKeyword_j156 hE C hDD n x1 gx1 x2 q1 (0:Int32) T0 Pg Pt Mk Ck Sj T1 Rd Lk Jd Ld Pr rt h _ _ _ hP hS (lv_sub hl [1, 2, 3, 0] rfl)
    · replace h := o_tt c7 h
      refine lv_iconst (v := (1:Int32)) hx hb d_Ck_inspectKeyword_151 (by decide) ?_
      refine lv_goto (tgt := 156) hx hb d_Ck_inspectKeyword_152 (by decide) ?_
      exact w_Ck_inspectKeyword_j156 hE C hDD n x1 gx1 x2 q1 (1:Int32) T0 Pg Pt Mk Ck Sj T1 Rd Lk Jd Ld Pr rt h _ _ _ hP hS (lv_sub hl [1, 2, 3, 0] rfl)
  replace h := o_ff c6 h
  by_cases c11 : w13 = (4:Int32)
  · replace h := o_tt c11 h
    refine lv_tableIn (off := 184) (tgt := 197) hx hb d_Ck_inspectKeyword_13 (by rw [c11]; decide) (by rw [c11]; decide) (by rw [c11]; rfl) (by decide) ?_
    refine lv_aload_n hx hb d_Ck_inspectKeyword_197 rfl (lv_at hl 1 rfl) ?_
    refine lv_iload_n hx hb d_Ck_inspectKeyword_198 rfl (lv_at hl 0 rfl) ?_
    refine lv_iconst (v := (3:Int32)) hx hb d_Ck_inspectKeyword_199 (by decide) ?_
    refine lv_icmp_ne (tgt := 207) hx hb d_Ck_inspectKeyword_200 (by decide) (fun c12 => ?_) (fun c12 => ?_)
    · replace h := o_ff c12 h
      refine lv_iconst (v := (0:Int32)) hx hb d_Ck_inspectKeyword_207 (by decide) ?_
      exact w_Ck_inspectKeyword_j208 hE C hDD n x2 (0:Int32) T0 Pg Pt Mk Ck Sj T1 Rd Lk Jd Ld Pr rt h _ _ _ hP hS (lv_sub hl [3] rfl)
    · replace h := o_tt c12 h
      refine lv_iconst (v := (1:Int32)) hx hb d_Ck_inspectKeyword_203 (by decide) ?_
      refine lv_goto (tgt := 208) hx hb d_Ck_inspectKeyword_204 (by decide) ?_
      exact w_Ck_inspectKeyword_j208 hE C hDD n x2 (1:Int32) T0 Pg Pt Mk Ck Sj T1 Rd Lk Jd Ld Pr rt h _ _ _ hP hS (lv_sub hl [3] rfl)
  replace h := o_ff c11 h
  by_cases c13 : w13 = (5:Int32)
  · replace h := o_tt c13 h
    refine lv_tableIn (off := 202) (tgt := 215) hx hb d_Ck_inspectKeyword_13 (by rw [c13]; decide) (by rw [c13]; decide) (by rw [c13]; rfl) (by decide) ?_
    refine lv_aload_n hx hb d_Ck_inspectKeyword_215 rfl (lv_at hl 1 rfl) ?_
    refine lv_iload_n hx hb d_Ck_inspectKeyword_216 rfl (lv_at hl 0 rfl) ?_
    refine lv_iconst (v := (3:Int32)) hx hb d_Ck_inspectKeyword_217 (by decide) ?_
    refine lv_icmp_ne (tgt := 236) hx hb d_Ck_inspectKeyword_218 (by decide) (fun c14 => ?_) (fun c14 => ?_)
    · replace h := o_ff c14 h
      refine lv_iconst (v := (0:Int32)) hx hb d_Ck_inspectKeyword_236 (by decide) ?_
      exact w_Ck_inspectKeyword_j237 hE C hDD n x2 (0:Int32) T0 Pg Pt Mk Ck Sj T1 Rd Lk Jd Ld Pr rt h _ _ _ hP hS (lv_sub hl [3] rfl)
    · replace h := o_tt c14 h
      refine lv_aload_n hx hb d_Ck_inspectKeyword_221 rfl (lv_at hl 1 rfl) ?_
      refine o_get (v := .ref (ad 1)) C in_Ck hP 45 cw_45 rfl 0 (by decide) k_2_7 rfl rfl d_Ck_inspectKeyword_222 ?_
      refine lv_iload_n hx hb d_Ck_inspectKeyword_225 rfl (lv_at hl 3 rfl) ?_
      obtain ⟨q11, hq11, h⟩ := o_bd_some h
      refine o_V (st1 := [.int q11, .ref (ad 45)]) (w1 := (o_cw ad ca rt Sj T0 T1 Rd Pg Pt Mk Lk Ck Jd Ld Pr)) hE.1 C (c_Tx_sign_0 hE l x2 T0 Sj T1 Rd Pg Pt Mk Lk Ck Jd Ld Pr rt hq11) hP (hDD _ _ _ _ _ _ _ _ _ _ _ _ _) hS hl.1 rfl cw_1 k_5_56 k_5_57 k_5_58 k_1_2 k_5_59 hv_Tx_sign rfl rfl ⟨(Nat.le_of_ble_eq_true rfl), (Nat.le_of_ble_eq_true rfl)⟩ rfl (Nat.le_of_ble_eq_true rfl) ⟨Nat.zero_le _, Nat.zero_le _⟩ rfl d_Ck_inspectKeyword_226 (fun H locs hP hS => ?_)
      refine lv_if_le (tgt := 236) hx hb d_Ck_inspectKeyword_229 (by decide) (fun c15 => ?_) (fun c15 => ?_)
      · replace h := o_tt c15 h
        refine lv_iconst (v := (0:Int32)) hx hb d_Ck_inspectKeyword_236 (by decide) ?_
        exact w_Ck_inspectKeyword_j237 hE C hDD n x2 (0:Int32) T0 Pg Pt Mk Ck Sj T1 Rd Lk Jd Ld Pr rt h _ _ _ hP hS (lv_sub hl [3] rfl)
      · replace h := o_ff c15 h
        refine lv_iconst (v := (1:Int32)) hx hb d_Ck_inspectKeyword_232 (by decide) ?_
        refine lv_goto (tgt := 237) hx hb d_Ck_inspectKeyword_233 (by decide) ?_
        exact w_Ck_inspectKeyword_j237 hE C hDD n x2 (1:Int32) T0 Pg Pt Mk Ck Sj T1 Rd Lk Jd Ld Pr rt h _ _ _ hP hS (lv_sub hl [3] rfl)
  replace h := o_ff c13 h
  by_cases c16 : w13 = (6:Int32)
  · replace h := o_tt c16 h
    refine lv_tableIn (off := 231) (tgt := 244) hx hb d_Ck_inspectKeyword_13 (by rw [c16]; decide) (by rw [c16]; decide) (by rw [c16]; rfl) (by decide) ?_
    refine lv_aload_n hx hb d_Ck_inspectKeyword_244 rfl (lv_at hl 1 rfl) ?_
    refine lv_aload_n hx hb d_Ck_inspectKeyword_245 rfl (lv_at hl 1 rfl) ?_
    refine o_get (v := .ref (ad 1)) C in_Ck hP 45 cw_45 rfl 0 (by decide) k_2_7 rfl rfl d_Ck_inspectKeyword_246 ?_
    refine lv_iload_n hx hb d_Ck_inspectKeyword_249 rfl (lv_at hl 3 rfl) ?_
    obtain ⟨q12, hq12, h⟩ := o_bd_some h
    refine o_V (st1 := [.int q12, .ref (ad 45)]) (w1 := (o_cw ad ca rt Sj T0 T1 Rd Pg Pt Mk Lk Ck Jd Ld Pr)) hE.1 C (c_Tx_wholeNumber_0 hE l n x2 T0 Sj T1 Rd Pg Pt Mk Lk Ck Jd Ld Pr rt hq12) hP (hDD _ _ _ _ _ _ _ _ _ _ _ _ _) hS hl.1 rfl cw_1 k_5_60 k_5_61 k_5_62 k_1_2 k_5_63 hv_Tx_wholeNumber rfl rfl ⟨(Nat.le_of_ble_eq_true rfl), (Nat.le_of_ble_eq_true rfl)⟩ rfl (Nat.le_of_ble_eq_true rfl) ⟨Nat.zero_le _, Nat.zero_le _⟩ rfl d_Ck_inspectKeyword_250 (fun H locs hP hS => ?_)
    refine lv_iconst (v := (-1:Int32)) hx hb d_Ck_inspectKeyword_253 (by decide) ?_
    refine lv_icmp_eq (tgt := 261) hx hb d_Ck_inspectKeyword_254 (by decide) (fun c17 => ?_) (fun c17 => ?_)
    · replace h := o_tt c17 h
      refine lv_iconst (v := (0:Int32)) hx hb d_Ck_inspectKeyword_261 (by decide) ?_
      exact w_Ck_inspectKeyword_j262 hE C hDD n x2 (0:Int32) T0 Pg Pt Mk Ck Sj T1 Rd Lk Jd Ld Pr rt h _ _ _ hP hS (lv_sub hl [3] rfl)
    · replace h := o_ff c17 h
      refine lv_iconst (v := (1:Int32)) hx hb d_Ck_inspectKeyword_257 (by decide) ?_
      refine lv_goto (tgt := 262) hx hb d_Ck_inspectKeyword_258 (by decide) ?_
      exact w_Ck_inspectKeyword_j262 hE C hDD n x2 (1:Int32) T0 Pg Pt Mk Ck Sj T1 Rd Lk Jd Ld Pr rt h _ _ _ hP hS (lv_sub hl [3] rfl)
  replace h := o_ff c16 h
  by_cases c18 : w13 = (7:Int32)
  · replace h := o_tt c18 h
    refine lv_tableIn (off := 256) (tgt := 269) hx hb d_Ck_inspectKeyword_13 (by rw [c18]; decide) (by rw [c18]; decide) (by rw [c18]; rfl) (by decide) ?_
    refine lv_aload_n hx hb d_Ck_inspectKeyword_269 rfl (lv_at hl 1 rfl) ?_
    refine lv_iload_n hx hb d_Ck_inspectKeyword_270 rfl (lv_at hl 0 rfl) ?_
    refine lv_iconst (v := (4:Int32)) hx hb d_Ck_inspectKeyword_271 (by decide) ?_
    refine lv_icmp_ne (tgt := 279) hx hb d_Ck_inspectKeyword_272 (by decide) (fun c19 => ?_) (fun c19 => ?_)
    · replace h := o_ff c19 h
      refine lv_iconst (v := (0:Int32)) hx hb d_Ck_inspectKeyword_279 (by decide) ?_
      exact w_Ck_inspectKeyword_j280 hE C hDD n x2 q1 (0:Int32) T0 Pg Pt Mk Ck Sj T1 Rd Lk Jd Ld Pr rt h _ _ _ hP hS (lv_sub hl [1, 3, 0] rfl)
    · replace h := o_tt c19 h
      refine lv_iconst (v := (1:Int32)) hx hb d_Ck_inspectKeyword_275 (by decide) ?_
      refine lv_goto (tgt := 280) hx hb d_Ck_inspectKeyword_276 (by decide) ?_
      exact w_Ck_inspectKeyword_j280 hE C hDD n x2 q1 (1:Int32) T0 Pg Pt Mk Ck Sj T1 Rd Lk Jd Ld Pr rt h _ _ _ hP hS (lv_sub hl [1, 3, 0] rfl)
  replace h := o_ff c18 h
  by_cases c23 : w13 = (8:Int32)
  · replace h := o_tt c23 h
    refine lv_tableIn (off := 310) (tgt := 323) hx hb d_Ck_inspectKeyword_13 (by rw [c23]; decide) (by rw [c23]; decide) (by rw [c23]; rfl) (by decide) ?_
    refine lv_aload_n hx hb d_Ck_inspectKeyword_323 rfl (lv_at hl 1 rfl) ?_
    refine lv_iload_n hx hb d_Ck_inspectKeyword_324 rfl (lv_at hl 0 rfl) ?_
    refine lv_iconst (v := (4:Int32)) hx hb d_Ck_inspectKeyword_325 (by decide) ?_
    refine lv_icmp_ne (tgt := 333) hx hb d_Ck_inspectKeyword_326 (by decide) (fun c24 => ?_) (fun c24 => ?_)
    · replace h := o_ff c24 h
      refine lv_iconst (v := (0:Int32)) hx hb d_Ck_inspectKeyword_333 (by decide) ?_
      exact w_Ck_inspectKeyword_j334 hE C hDD n x2 (0:Int32) T0 Pg Pt Mk Ck Sj T1 Rd Lk Jd Ld Pr rt h _ _ _ hP hS (lv_sub hl [3] rfl)
    · replace h := o_tt c24 h
      refine lv_iconst (v := (1:Int32)) hx hb d_Ck_inspectKeyword_329 (by decide) ?_
      refine lv_goto (tgt := 334) hx hb d_Ck_inspectKeyword_330 (by decide) ?_
      exact w_Ck_inspectKeyword_j334 hE C hDD n x2 (1:Int32) T0 Pg Pt Mk Ck Sj T1 Rd Lk Jd Ld Pr rt h _ _ _ hP hS (lv_sub hl [3] rfl)
  replace h := o_ff c23 h
  by_cases c25 : w13 = (9:Int32)
  · replace h := o_tt c25 h
    refine lv_tableIn (off := 328) (tgt := 341) hx hb d_Ck_inspectKeyword_13 (by rw [c25]; decide) (by rw [c25]; decide) (by rw [c25]; rfl) (by decide) ?_
    refine lv_aload_n hx hb d_Ck_inspectKeyword_341 rfl (lv_at hl 1 rfl) ?_
    refine lv_iload_n hx hb d_Ck_inspectKeyword_342 rfl (lv_at hl 0 rfl) ?_
    refine lv_iconst (v := (4:Int32)) hx hb d_Ck_inspectKeyword_343 (by decide) ?_
    refine lv_icmp_ne (tgt := 359) hx hb d_Ck_inspectKeyword_344 (by decide) (fun c26 => ?_) (fun c26 => ?_)
    · replace h := o_ff c26 h
      refine lv_iconst (v := (0:Int32)) hx hb d_Ck_inspectKeyword_359 (by decide) ?_
      exact w_Ck_inspectKeyword_j360 hE C hDD n x2 (0:Int32) T0 Pg Pt Mk Ck Sj T1 Rd Lk Jd Ld Pr rt h _ _ _ hP hS (lv_sub hl [3] rfl)
    · replace h := o_tt c26 h
      refine lv_aload_n hx hb d_Ck_inspectKeyword_347 rfl (lv_at hl 1 rfl) ?_
      refine lv_iload_n hx hb d_Ck_inspectKeyword_348 rfl (lv_at hl 3 rfl) ?_
      obtain ⟨q20, hq20, h⟩ := o_bd_some h
      refine o_V (st1 := [.int q20, .ref (ad 45)]) (w1 := (o_cw ad ca rt Sj T0 T1 Rd Pg Pt Mk Lk Ck Jd Ld Pr)) hE.1 C (c_Ck_isAnchor hE l n x2 T0 Sj T1 Rd Pg Pt Mk Lk Ck Jd Ld Pr rt hq20) hP (hDD _ _ _ _ _ _ _ _ _ _ _ _ _) hS hl.1 rfl cw_45 k_5_72 k_5_74 k_s_37 k_1_7 k_5_75 hv_Ck_isAnchor rfl rfl ⟨(Nat.le_of_ble_eq_true rfl), (Nat.le_of_ble_eq_true rfl)⟩ rfl (Nat.le_of_ble_eq_true rfl) ⟨Nat.zero_le _, Nat.zero_le _⟩ rfl d_Ck_inspectKeyword_349 (fun H locs hP hS => ?_)
      refine lv_if_eq (tgt := 359) hx hb d_Ck_inspectKeyword_352 (by decide) (fun c27 => ?_) (fun c27 => ?_)
      · replace h := o_tt c27 h
        refine lv_iconst (v := (0:Int32)) hx hb d_Ck_inspectKeyword_359 (by decide) ?_
        exact w_Ck_inspectKeyword_j360 hE C hDD n x2 (0:Int32) T0 Pg Pt Mk Ck Sj T1 Rd Lk Jd Ld Pr rt h _ _ _ hP hS (lv_sub hl [3] rfl)
      · replace h := o_ff c27 h
        refine lv_iconst (v := (1:Int32)) hx hb d_Ck_inspectKeyword_355 (by decide) ?_
        refine lv_goto (tgt := 360) hx hb d_Ck_inspectKeyword_356 (by decide) ?_
        exact w_Ck_inspectKeyword_j360 hE C hDD n x2 (1:Int32) T0 Pg Pt Mk Ck Sj T1 Rd Lk Jd Ld Pr rt h _ _ _ hP hS (lv_sub hl [3] rfl)
  replace h := o_ff c25 h
  by_cases c28 : w13 = (10:Int32)
  · replace h := o_tt c28 h
    refine lv_tableIn (off := 363) (tgt := 376) hx hb d_Ck_inspectKeyword_13 (by rw [c28]; decide) (by rw [c28]; decide) (by rw [c28]; rfl) (by decide) ?_
    refine lv_aload_n hx hb d_Ck_inspectKeyword_376 rfl (lv_at hl 1 rfl) ?_
    refine lv_aload_n hx hb d_Ck_inspectKeyword_377 rfl (lv_at hl 2 rfl) ?_
    refine lv_iload_n hx hb d_Ck_inspectKeyword_378 rfl (lv_at hl 3 rfl) ?_
    refine lv_iload_n hx hb d_Ck_inspectKeyword_379 rfl (lv_at hl 0 rfl) ?_
    obtain ⟨q21, hq21, h⟩ := o_bd_some h
    refine o_V (st1 := []) (w1 := (o_cw ad ca rt Sj T0 T1 Rd Pg Pt Mk Lk q21 Jd Ld Pr)) hE.1 C (c_Ck_inspectPlain hE l n x1 gx1 x2 q1 T0 Ck Sj T1 Rd Pg Pt Mk Lk Jd Ld Pr rt hq21) hP (hDD _ _ _ _ _ _ _ _ _ _ _ _ _) hS hl.1 rfl cw_45 k_5_81 k_5_83 k_s_38 k_1_7 k_5_84 hv_Ck_inspectPlain rfl rfl ⟨(Nat.le_of_ble_eq_true rfl), (Nat.le_of_ble_eq_true rfl)⟩ rfl (Nat.le_of_ble_eq_true rfl) ⟨Nat.zero_le _, Nat.zero_le _⟩ rfl d_Ck_inspectKeyword_380 (fun H locs hP hS => ?_)
    cases h
    exact o_rv C hP hS d_Ck_inspectKeyword_383
  replace h := o_ff c28 h
  by_cases c29 : w13 = (11:Int32)
  · replace h := o_tt c29 h
    refine lv_tableIn (off := 363) (tgt := 376) hx hb d_Ck_inspectKeyword_13 (by rw [c29]; decide) (by rw [c29]; decide) (by rw [c29]; rfl) (by decide) ?_
    refine lv_aload_n hx hb d_Ck_inspectKeyword_376 rfl (lv_at hl 1 rfl) ?_
    refine lv_aload_n hx hb d_Ck_inspectKeyword_377 rfl (lv_at hl 2 rfl) ?_
    refine lv_iload_n hx hb d_Ck_inspectKeyword_378 rfl (lv_at hl 3 rfl) ?_
    refine lv_iload_n hx hb d_Ck_inspectKeyword_379 rfl (lv_at hl 0 rfl) ?_
    obtain ⟨q22, hq22, h⟩ := o_bd_some h
    refine o_V (st1 := []) (w1 := (o_cw ad ca rt Sj T0 T1 Rd Pg Pt Mk Lk q22 Jd Ld Pr)) hE.1 C (c_Ck_inspectPlain hE l n x1 gx1 x2 q1 T0 Ck Sj T1 Rd Pg Pt Mk Lk Jd Ld Pr rt hq22) hP (hDD _ _ _ _ _ _ _ _ _ _ _ _ _) hS hl.1 rfl cw_45 k_5_81 k_5_83 k_s_38 k_1_7 k_5_84 hv_Ck_inspectPlain rfl rfl ⟨(Nat.le_of_ble_eq_true rfl), (Nat.le_of_ble_eq_true rfl)⟩ rfl (Nat.le_of_ble_eq_true rfl) ⟨Nat.zero_le _, Nat.zero_le _⟩ rfl d_Ck_inspectKeyword_380 (fun H locs hP hS => ?_)
    cases h
    exact o_rv C hP hS d_Ck_inspectKeyword_383
  replace h := o_ff c29 h
  by_cases c30 : w13 = (12:Int32)
  · replace h := o_tt c30 h
    refine lv_tableIn (off := 363) (tgt := 376) hx hb d_Ck_inspectKeyword_13 (by rw [c30]; decide) (by rw [c30]; decide) (by rw [c30]; rfl) (by decide) ?_
    refine lv_aload_n hx hb d_Ck_inspectKeyword_376 rfl (lv_at hl 1 rfl) ?_
    refine lv_aload_n hx hb d_Ck_inspectKeyword_377 rfl (lv_at hl 2 rfl) ?_
    refine lv_iload_n hx hb d_Ck_inspectKeyword_378 rfl (lv_at hl 3 rfl) ?_
    refine lv_iload_n hx hb d_Ck_inspectKeyword_379 rfl (lv_at hl 0 rfl) ?_
    obtain ⟨q23, hq23, h⟩ := o_bd_some h
    refine o_V (st1 := []) (w1 := (o_cw ad ca rt Sj T0 T1 Rd Pg Pt Mk Lk q23 Jd Ld Pr)) hE.1 C (c_Ck_inspectPlain hE l n x1 gx1 x2 q1 T0 Ck Sj T1 Rd Pg Pt Mk Lk Jd Ld Pr rt hq23) hP (hDD _ _ _ _ _ _ _ _ _ _ _ _ _) hS hl.1 rfl cw_45 k_5_81 k_5_83 k_s_38 k_1_7 k_5_84 hv_Ck_inspectPlain rfl rfl ⟨(Nat.le_of_ble_eq_true rfl), (Nat.le_of_ble_eq_true rfl)⟩ rfl (Nat.le_of_ble_eq_true rfl) ⟨Nat.zero_le _, Nat.zero_le _⟩ rfl d_Ck_inspectKeyword_380 (fun H locs hP hS => ?_)
    cases h
    exact o_rv C hP hS d_Ck_inspectKeyword_383
  replace h := o_ff c30 h
  by_cases c31 : w13 = (13:Int32)
  · replace h := o_tt c31 h
    refine lv_tableIn (off := 363) (tgt := 376) hx hb d_Ck_inspectKeyword_13 (by rw [c31]; decide) (by rw [c31]; decide) (by rw [c31]; rfl) (by decide) ?_
    refine lv_aload_n hx hb d_Ck_inspectKeyword_376 rfl (lv_at hl 1 rfl) ?_
    refine lv_aload_n hx hb d_Ck_inspectKeyword_377 rfl (lv_at hl 2 rfl) ?_
    refine lv_iload_n hx hb d_Ck_inspectKeyword_378 rfl (lv_at hl 3 rfl) ?_
    refine lv_iload_n hx hb d_Ck_inspectKeyword_379 rfl (lv_at hl 0 rfl) ?_
    obtain ⟨q24, hq24, h⟩ := o_bd_some h
    refine o_V (st1 := []) (w1 := (o_cw ad ca rt Sj T0 T1 Rd Pg Pt Mk Lk q24 Jd Ld Pr)) hE.1 C (c_Ck_inspectPlain hE l n x1 gx1 x2 q1 T0 Ck Sj T1 Rd Pg Pt Mk Lk Jd Ld Pr rt hq24) hP (hDD _ _ _ _ _ _ _ _ _ _ _ _ _) hS hl.1 rfl cw_45 k_5_81 k_5_83 k_s_38 k_1_7 k_5_84 hv_Ck_inspectPlain rfl rfl ⟨(Nat.le_of_ble_eq_true rfl), (Nat.le_of_ble_eq_true rfl)⟩ rfl (Nat.le_of_ble_eq_true rfl) ⟨Nat.zero_le _, Nat.zero_le _⟩ rfl d_Ck_inspectKeyword_380 (fun H locs hP hS => ?_)
    cases h
    exact o_rv C hP hS d_Ck_inspectKeyword_383
  replace h := o_ff c31 h
  by_cases c32 : w13 = (14:Int32)
  · replace h := o_tt c32 h
    refine lv_tableIn (off := 363) (tgt := 376) hx hb d_Ck_inspectKeyword_13 (by rw [c32]; decide) (by rw [c32]; decide) (by rw [c32]; rfl) (by decide) ?_
    refine lv_aload_n hx hb d_Ck_inspectKeyword_376 rfl (lv_at hl 1 rfl) ?_
    refine lv_aload_n hx hb d_Ck_inspectKeyword_377 rfl (lv_at hl 2 rfl) ?_
    refine lv_iload_n hx hb d_Ck_inspectKeyword_378 rfl (lv_at hl 3 rfl) ?_
    refine lv_iload_n hx hb d_Ck_inspectKeyword_379 rfl (lv_at hl 0 rfl) ?_
    obtain ⟨q25, hq25, h⟩ := o_bd_some h
    refine o_V (st1 := []) (w1 := (o_cw ad ca rt Sj T0 T1 Rd Pg Pt Mk Lk q25 Jd Ld Pr)) hE.1 C (c_Ck_inspectPlain hE l n x1 gx1 x2 q1 T0 Ck Sj T1 Rd Pg Pt Mk Lk Jd Ld Pr rt hq25) hP (hDD _ _ _ _ _ _ _ _ _ _ _ _ _) hS hl.1 rfl cw_45 k_5_81 k_5_83 k_s_38 k_1_7 k_5_84 hv_Ck_inspectPlain rfl rfl ⟨(Nat.le_of_ble_eq_true rfl), (Nat.le_of_ble_eq_true rfl)⟩ rfl (Nat.le_of_ble_eq_true rfl) ⟨Nat.zero_le _, Nat.zero_le _⟩ rfl d_Ck_inspectKeyword_380 (fun H locs hP hS => ?_)
    cases h
    exact o_rv C hP hS d_Ck_inspectKeyword_383
  replace h := o_ff c32 h
  by_cases c33 : w13 = (15:Int32)
  · replace h := o_tt c33 h
    refine lv_tableIn (off := 363) (tgt := 376) hx hb d_Ck_inspectKeyword_13 (by rw [c33]; decide) (by rw [c33]; decide) (by rw [c33]; rfl) (by decide) ?_
    refine lv_aload_n hx hb d_Ck_inspectKeyword_376 rfl (lv_at hl 1 rfl) ?_
    refine lv_aload_n hx hb d_Ck_inspectKeyword_377 rfl (lv_at hl 2 rfl) ?_
    refine lv_iload_n hx hb d_Ck_inspectKeyword_378 rfl (lv_at hl 3 rfl) ?_
    refine lv_iload_n hx hb d_Ck_inspectKeyword_379 rfl (lv_at hl 0 rfl) ?_
    obtain ⟨q26, hq26, h⟩ := o_bd_some h
    refine o_V (st1 := []) (w1 := (o_cw ad ca rt Sj T0 T1 Rd Pg Pt Mk Lk q26 Jd Ld Pr)) hE.1 C (c_Ck_inspectPlain hE l n x1 gx1 x2 q1 T0 Ck Sj T1 Rd Pg Pt Mk Lk Jd Ld Pr rt hq26) hP (hDD _ _ _ _ _ _ _ _ _ _ _ _ _) hS hl.1 rfl cw_45 k_5_81 k_5_83 k_s_38 k_1_7 k_5_84 hv_Ck_inspectPlain rfl rfl ⟨(Nat.le_of_ble_eq_true rfl), (Nat.le_of_ble_eq_true rfl)⟩ rfl (Nat.le_of_ble_eq_true rfl) ⟨Nat.zero_le _, Nat.zero_le _⟩ rfl d_Ck_inspectKeyword_380 (fun H locs hP hS => ?_)
    cases h
    exact o_rv C hP hS d_Ck_inspectKeyword_383
  replace h := o_ff c33 h
  by_cases c34 : w13 = (16:Int32)
  · replace h := o_tt c34 h
    refine lv_tableIn (off := 354) (tgt := 367) hx hb d_Ck_inspectKeyword_13 (by rw [c34]; decide) (by rw [c34]; decide) (by rw [c34]; rfl) (by decide) ?_
    refine lv_aload_n hx hb d_Ck_inspectKeyword_367 rfl (lv_at hl 1 rfl) ?_
    refine lv_iconst (v := (2:Int32)) hx hb d_Ck_inspectKeyword_368 (by decide) ?_
    refine lv_iload_n hx hb d_Ck_inspectKeyword_369 rfl (lv_at hl 3 rfl) ?_
    obtain ⟨q27, hq27, h⟩ := o_bd_some h
    refine o_V (st1 := []) (w1 := (o_cw ad ca rt Sj T0 T1 Rd Pg Pt Mk Lk q27 Jd Ld Pr)) hE.1 C (c_Ck_report hE l (2:Int32) x2 Ck Sj T0 T1 Rd Pg Pt Mk Lk Jd Ld Pr rt hq27) hP (hDD _ _ _ _ _ _ _ _ _ _ _ _ _) hS hl.1 rfl cw_45 k_4_57 k_4_59 k_s_20 k_1_7 k_4_60 hv_Ck_report rfl rfl ⟨(Nat.le_of_ble_eq_true rfl), (Nat.le_of_ble_eq_true rfl)⟩ rfl (Nat.le_of_ble_eq_true rfl) ⟨Nat.zero_le _, Nat.zero_le _⟩ rfl d_Ck_inspectKeyword_370 (fun H locs hP hS => ?_)
    refine lv_goto (tgt := 383) hx hb d_Ck_inspectKeyword_373 (by decide) ?_
    cases h
    exact o_rv C hP hS d_Ck_inspectKeyword_383
  replace h := o_ff c34 h
  refine lv_tableOut (tgt := 376) hx hb d_Ck_inspectKeyword_13 (by have ec1 := o_ne_i (n := 1) (by decide) c1; have ec2 := o_ne_i (n := 2) (by decide) c2; have ec6 := o_ne_i (n := 3) (by decide) c6; have ec11 := o_ne_i (n := 4) (by decide) c11; have ec13 := o_ne_i (n := 5) (by decide) c13; have ec16 := o_ne_i (n := 6) (by decide) c16; have ec18 := o_ne_i (n := 7) (by decide) c18; have ec23 := o_ne_i (n := 8) (by decide) c23; have ec25 := o_ne_i (n := 9) (by decide) c25; have ec28 := o_ne_i (n := 10) (by decide) c28; have ec29 := o_ne_i (n := 11) (by decide) c29; have ec30 := o_ne_i (n := 12) (by decide) c30; have ec31 := o_ne_i (n := 13) (by decide) c31; have ec32 := o_ne_i (n := 14) (by decide) c32; have ec33 := o_ne_i (n := 15) (by decide) c33; have ec34 := o_ne_i (n := 16) (by decide) c34; omega) (by decide) ?_
  refine lv_aload_n hx hb d_Ck_inspectKeyword_376 rfl (lv_at hl 1 rfl) ?_
  refine lv_aload_n hx hb d_Ck_inspectKeyword_377 rfl (lv_at hl 2 rfl) ?_
  refine lv_iload_n hx hb d_Ck_inspectKeyword_378 rfl (lv_at hl 3 rfl) ?_
  refine lv_iload_n hx hb d_Ck_inspectKeyword_379 rfl (lv_at hl 0 rfl) ?_
  obtain ⟨q28, hq28, h⟩ := o_bd_some h
  refine o_V (st1 := []) (w1 := (o_cw ad ca rt Sj T0 T1 Rd Pg Pt Mk Lk q28 Jd Ld Pr)) hE.1 C (c_Ck_inspectPlain hE l n x1 gx1 x2 q1 T0 Ck Sj T1 Rd Pg Pt Mk Lk Jd Ld Pr rt hq28) hP (hDD _ _ _ _ _ _ _ _ _ _ _ _ _) hS hl.1 rfl cw_45 k_5_81 k_5_83 k_s_38 k_1_7 k_5_84 hv_Ck_inspectPlain rfl rfl ⟨(Nat.le_of_ble_eq_true rfl), (Nat.le_of_ble_eq_true rfl)⟩ rfl (Nat.le_of_ble_eq_true rfl) ⟨Nat.zero_le _, Nat.zero_le _⟩ rfl d_Ck_inspectKeyword_380 (fun H locs hP hS => ?_)
  cases h
  exact o_rv C hP hS d_Ck_inspectKeyword_383
set_option maxHeartbeats 4000000 in
set_option maxRecDepth 100000 in
theorem w_Ck_inspectSchema_b11 {E : (Nat → Prop) → State → Heap → Prop} {p : Program} {l : Launch} {e : Env} {s : State} {m : MethodId} {args : Array Value} {below : List Frame} {meth : Method} {c : Code} {D : va_G} {ad kd sd vd xd : Nat → Nat} {ca : Nat → ClassId} {A : Nat → Prop} {Q : State → Prop} (hE : o_EK E kd sd vd xd) (C : o_Cx E p s m args meth c D o_cls (o_tys ca) "SchemaJudge$Checker" b_Ck_inspectSchema none 4 cc_Ck_inspectSchema A) (hDD : ∀ (rt : Nat) (Sj : SSJ) (T0 : STx) (T1 : STx) (Rd : SRd) (Pg : SPg) (Pt : SPt) (Mk : SMk) (Lk : SLk) (Ck : SCk) (Jd : SJd) (Ld : SLd) (Pr : SPr), va_D A (o_cw ad ca rt Sj T0 T1 Rd Pg Pt Mk Lk Ck Jd Ld Pr)) (n : Nat) (u11_x1 : Int32) (u11_T0 : STx) (u11_Sj : SSJ) (u11_T1 : STx) (u11_Rd : SRd) (u11_Lk : SLk) (u11_Jd : SJd) (u11_Ld : SLd) (u11_Pr : SPr) (u11_rt : Nat) (z : Int32 × Int32 × SPg × SPt × SMk × SCk) (q : Nat × Int32 × Int32 × SPg × SPt × SMk × SCk) (h : m_Ck_inspectSchema_b11 n u11_x1 u11_T0 z = some q) (h0 : q.1 = 0 → o_At p l e rm_Ck_inspectSchema s m args below meth c Q o_cls D A 4 11 [] (o_cw ad ca u11_rt u11_Sj u11_T0 u11_T1 u11_Rd q.2.2.2.1 q.2.2.2.2.1 q.2.2.2.2.2.1 u11_Lk q.2.2.2.2.2.2 u11_Jd u11_Ld u11_Pr) [(0, .ref (ad 45)), (1, .int u11_x1), (2, .int q.2.1), (3, .int q.2.2.1)]) (h1 : q.1 ≠ 0 → (o_At p l e rm_Ck_inspectSchema s m args below meth c Q o_cls D A 4 51 [] (o_cw ad ca u11_rt u11_Sj u11_T0 u11_T1 u11_Rd q.2.2.2.1 q.2.2.2.2.1 q.2.2.2.2.2.1 u11_Lk q.2.2.2.2.2.2 u11_Jd u11_Ld u11_Pr) [])) : o_At p l e rm_Ck_inspectSchema s m args below meth c Q o_cls D A 4 11 [] (o_cw ad ca u11_rt u11_Sj u11_T0 u11_T1 u11_Rd z.2.2.1 z.2.2.2.1 z.2.2.2.2.1 u11_Lk z.2.2.2.2.2 u11_Jd u11_Ld u11_Pr) [(0, .ref (ad 45)), (1, .int u11_x1), (2, .int z.1), (3, .int z.2.1)] := by
  unfold m_Ck_inspectSchema_b11 at h
  intro H locs ls hP hS hl
  have C0 := C
  obtain ⟨hx, hb, -, -, -, hown, hts, hK, -, -⟩ := C0
  refine lv_iload_n hx hb d_Ck_inspectSchema_11 rfl (lv_at hl 3 rfl) ?_
  refine lv_aload_n hx hb d_Ck_inspectSchema_12 rfl (lv_at hl 0 rfl) ?_
  refine o_get (v := .ref (ad 1)) C in_Ck hP 45 cw_45 rfl 0 (by decide) k_2_7 rfl rfl d_Ck_inspectSchema_13 ?_
  refine lv_iload_n hx hb d_Ck_inspectSchema_16 rfl (lv_at hl 1 rfl) ?_
  obtain ⟨q2, hq2, h⟩ := o_bd_some h
  refine o_V (st1 := [.int q2, .int z.2.1]) (w1 := (o_cw ad ca u11_rt u11_Sj u11_T0 u11_T1 u11_Rd z.2.2.1 z.2.2.2.1 z.2.2.2.2.1 u11_Lk z.2.2.2.2.2 u11_Jd u11_Ld u11_Pr)) hE.1 C (c_Tx_size_0 hE l u11_x1 u11_T0 u11_Sj u11_T1 u11_Rd z.2.2.1 z.2.2.2.1 z.2.2.2.2.1 u11_Lk z.2.2.2.2.2 u11_Jd u11_Ld u11_Pr u11_rt hq2) hP (hDD _ _ _ _ _ _ _ _ _ _ _ _ _) hS hl.1 rfl cw_1 k_4_71 k_3_215 k_3_216 k_1_2 k_3_217 hv_Tx_size rfl rfl ⟨(Nat.le_of_ble_eq_true rfl), (Nat.le_of_ble_eq_true rfl)⟩ rfl (Nat.le_of_ble_eq_true rfl) ⟨Nat.zero_le _, Nat.zero_le _⟩ rfl d_Ck_inspectSchema_17 (fun H locs hP hS => ?_)
  refine lv_icmp_ge (tgt := 51) hx hb d_Ck_inspectSchema_20 (by decide) (fun c1 => ?_) (fun c1 => ?_)
  · replace h := o_tt c1 h
    cases h
    exact h1 (Nat.succ_ne_zero 0) _ _ _ hP hS (lv_sub hl [] rfl)
  · replace h := o_ff c1 h
    refine lv_aload_n hx hb d_Ck_inspectSchema_23 rfl (lv_at hl 0 rfl) ?_
    refine lv_aload_n hx hb d_Ck_inspectSchema_24 rfl (lv_at hl 0 rfl) ?_
    refine o_get (v := .ref (ad 39)) C in_Ck hP 45 cw_45 rfl 1 (by decide) k_2_8 rfl rfl d_Ck_inspectSchema_25 ?_
    refine lv_iload_n hx hb d_Ck_inspectSchema_28 rfl (lv_at hl 2 rfl) ?_
    obtain ⟨q3, hq3, h⟩ := o_bd_some h
    obtain ⟨g2, h⟩ := o_gd_some h
    refine o_V (st1 := [.ref (kd q3.1), .ref (ad 45)]) (w1 := (o_cw ad ca u11_rt u11_Sj u11_T0 u11_T1 u11_Rd z.2.2.1 z.2.2.2.1 q3.2 u11_Lk z.2.2.2.2.2 u11_Jd u11_Ld u11_Pr)) hE.1 C (c_Mk_markKeyword hE l n z.1 u11_T0 z.2.2.2.2.1 u11_Sj u11_T1 u11_Rd z.2.2.1 z.2.2.2.1 u11_Lk z.2.2.2.2.2 u11_Jd u11_Ld u11_Pr u11_rt hq3) hP (hDD _ _ _ _ _ _ _ _ _ _ _ _ _) hS hl.1 rfl cw_39 k_4_72 k_4_73 k_4_74 k_1_6 k_4_75 hv_Mk_markKeyword rfl rfl ⟨(Nat.le_of_ble_eq_true rfl), (Nat.le_of_ble_eq_true rfl)⟩ rfl (Nat.le_of_ble_eq_true rfl) ⟨Nat.zero_le _, Nat.zero_le _⟩ rfl d_Ck_inspectSchema_29 (fun H locs hP hS => ?_)
    refine lv_iload_n hx hb d_Ck_inspectSchema_32 rfl (lv_at hl 2 rfl) ?_
    obtain ⟨q4, hq4, h⟩ := o_bd_some h
    refine o_V (st1 := []) (w1 := (o_cw ad ca u11_rt u11_Sj u11_T0 u11_T1 u11_Rd q4.1 q4.2.1 q4.2.2.1 u11_Lk q4.2.2.2 u11_Jd u11_Ld u11_Pr)) hE.1 C (c_Ck_inspectKeyword hE l n q3.1 g2 z.1 u11_T0 z.2.2.1 z.2.2.2.1 q3.2 z.2.2.2.2.2 u11_Sj u11_T1 u11_Rd u11_Lk u11_Jd u11_Ld u11_Pr u11_rt hq4) hP (hDD _ _ _ _ _ _ _ _ _ _ _ _ _) hS hl.1 rfl cw_45 k_4_92 k_4_94 k_s_22 k_1_7 k_4_95 hv_Ck_inspectKeyword rfl rfl ⟨(Nat.le_of_ble_eq_true rfl), (Nat.le_of_ble_eq_true rfl)⟩ rfl (Nat.le_of_ble_eq_true rfl) ⟨Nat.zero_le _, Nat.zero_le _⟩ rfl d_Ck_inspectSchema_33 (fun H locs hP hS => ?_)
    refine lv_aload_n hx hb d_Ck_inspectSchema_36 rfl (lv_at hl 0 rfl) ?_
    refine o_get (v := .ref (ad 1)) C in_Ck hP 45 cw_45 rfl 0 (by decide) k_2_7 rfl rfl d_Ck_inspectSchema_37 ?_
    refine lv_iload_n hx hb d_Ck_inspectSchema_40 rfl (lv_at hl 2 rfl) ?_
    obtain ⟨q5, hq5, h⟩ := o_bd_some h
    refine o_V (st1 := [.int q5]) (w1 := (o_cw ad ca u11_rt u11_Sj u11_T0 u11_T1 u11_Rd q4.1 q4.2.1 q4.2.2.1 u11_Lk q4.2.2.2 u11_Jd u11_Ld u11_Pr)) hE.1 C (c_Tx_nextChild_0 hE l z.1 u11_T0 u11_Sj u11_T1 u11_Rd q4.1 q4.2.1 q4.2.2.1 u11_Lk q4.2.2.2 u11_Jd u11_Ld u11_Pr u11_rt hq5) hP (hDD _ _ _ _ _ _ _ _ _ _ _ _ _) hS hl.1 rfl cw_1 k_4_101 k_3_222 k_3_223 k_1_2 k_3_224 hv_Tx_nextChild rfl rfl ⟨(Nat.le_of_ble_eq_true rfl), (Nat.le_of_ble_eq_true rfl)⟩ rfl (Nat.le_of_ble_eq_true rfl) ⟨Nat.zero_le _, Nat.zero_le _⟩ rfl d_Ck_inspectSchema_41 (fun H locs hP hS => ?_)
    refine lv_istore_n (lv' := [(2, .int q5), (0, .ref (ad 45)), (1, .int u11_x1), (3, .int z.2.1)]) hx hb d_Ck_inspectSchema_44 rfl hl (by decide) rfl (fun ls hl => ?_)
    obtain ⟨x3_45, ex3_45⟩ : ∃ y : Int32, y = z.2.1 + (1:Int32) := ⟨_, rfl⟩
    replace h := o_nm_at ex3_45 h
    refine lv_iinc (v := x3_45) (lv' := [(3, .int x3_45), (2, .int q5), (0, .ref (ad 45)), (1, .int u11_x1)]) hx hb d_Ck_inspectSchema_45 hl (k := 3) rfl (by rw [ex3_45]; rfl) (by decide) rfl (fun ls hl => ?_)
    refine lv_goto (tgt := 11) hx hb d_Ck_inspectSchema_48 (by decide) ?_
    cases h
    exact h0 rfl _ _ _ hP hS (lv_sub hl [2, 3, 1, 0] rfl)
set_option maxHeartbeats 4000000 in
set_option maxRecDepth 100000 in
theorem c_Ck_inspectSchema {E : (Nat → Prop) → State → Heap → Prop} {D : va_G} {ad kd sd vd xd : Nat → Nat} {ca : Nat → ClassId} (hE : o_EK E kd sd vd xd) (l : Launch) (n : Nat) (x1 : Int32) (T0 : STx) (Pg : SPg) (Pt : SPt) (Mk : SMk) (Ck : SCk) (Sj : SSJ) (T1 : STx) (Rd : SRd) (Lk : SLk) (Jd : SJd) (Ld : SLd) (Pr : SPr) (rt : Nat) {r : SPg × SPt × SMk × SCk} (h : m_Ck_inspectSchema n x1 T0 Pg Pt Mk Ck = some r) : o_Cn E l D o_cls (o_tys ca) y_Ck_inspectSchema cc_Ck_inspectSchema rm_Ck_inspectSchema [.ref (ad 45), .int x1] (o_cw ad ca rt Sj T0 T1 Rd Pg Pt Mk Lk Ck Jd Ld Pr) (o_cw ad ca rt Sj T0 T1 Rd r.1 r.2.1 r.2.2.1 Lk r.2.2.2 Jd Ld Pr) none := by
  refine o_Cn_of (by decide) (Nat.le_of_ble_eq_true rfl) ?_
  intro p e s m below meth c A ls C hD hP hS hl
  have hDD : ∀ (rt : Nat) (Sj : SSJ) (T0 : STx) (T1 : STx) (Rd : SRd) (Pg : SPg) (Pt : SPt) (Mk : SMk) (Lk : SLk) (Ck : SCk) (Jd : SJd) (Ld : SLd) (Pr : SPr), va_D A (o_cw ad ca rt Sj T0 T1 Rd Pg Pt Mk Lk Ck Jd Ld Pr) := fun _ _ _ _ _ _ _ _ _ _ _ _ _ => o_D_map hD rfl
  have hl : lv_has ls 4 [(0, .ref (ad 45)), (1, .int x1)] := hl
  unfold m_Ck_inspectSchema at h
  have C0 := C
  obtain ⟨hx, hb, -, -, -, hown, hts, hK, -, -⟩ := C0
  refine lv_aload_n hx hb d_Ck_inspectSchema_0 rfl (lv_at hl 0 rfl) ?_
  refine o_get (v := .ref (ad 1)) C in_Ck hP 45 cw_45 rfl 0 (by decide) k_2_7 rfl rfl d_Ck_inspectSchema_1 ?_
  refine lv_iload_n hx hb d_Ck_inspectSchema_4 rfl (lv_at hl 1 rfl) ?_
  obtain ⟨q1, hq1, h⟩ := o_bd_some h
  refine o_V (st1 := [.int q1]) (w1 := (o_cw ad ca rt Sj T0 T1 Rd Pg Pt Mk Lk Ck Jd Ld Pr)) hE.1 C (c_Tx_firstChild_0 hE l x1 T0 Sj T1 Rd Pg Pt Mk Lk Ck Jd Ld Pr rt hq1) hP (hDD _ _ _ _ _ _ _ _ _ _ _ _ _) hS hl.1 rfl cw_1 k_4_70 k_3_211 k_3_212 k_1_2 k_3_213 hv_Tx_firstChild rfl rfl ⟨(Nat.le_of_ble_eq_true rfl), (Nat.le_of_ble_eq_true rfl)⟩ rfl (Nat.le_of_ble_eq_true rfl) ⟨Nat.zero_le _, Nat.zero_le _⟩ rfl d_Ck_inspectSchema_5 (fun H locs hP hS => ?_)
  refine lv_istore_n (lv' := [(2, .int q1), (0, .ref (ad 45)), (1, .int x1)]) hx hb d_Ck_inspectSchema_8 rfl hl (by decide) rfl (fun ls hl => ?_)
  refine lv_iconst (v := (0:Int32)) hx hb d_Ck_inspectSchema_9 (by decide) ?_
  refine lv_istore_n (lv' := [(3, .int (0:Int32)), (2, .int q1), (0, .ref (ad 45)), (1, .int x1)]) hx hb d_Ck_inspectSchema_10 rfl hl (by decide) rfl (fun ls hl => ?_)
  obtain ⟨q6, hq6, h⟩ := o_bd_some h
  refine o_sim2 (AH := fun zz => o_At p l e rm_Ck_inspectSchema s m _ below meth c _ o_cls D A 4 11 [] (o_cw ad ca rt Sj T0 T1 Rd zz.2.2.1 zz.2.2.2.1 zz.2.2.2.2.1 Lk zz.2.2.2.2.2 Jd Ld Pr) [(0, .ref (ad 45)), (1, .int x1), (2, .int zz.1), (3, .int zz.2.1)]) (AX := fun qq => o_At p l e rm_Ck_inspectSchema s m _ below meth c _ o_cls D A 4 51 [] (o_cw ad ca rt Sj T0 T1 Rd qq.2.2.2.1 qq.2.2.2.2.1 qq.2.2.2.2.2.1 Lk qq.2.2.2.2.2.2 Jd Ld Pr) []) (fun zz qq h h0 h1 => w_Ck_inspectSchema_b11 hE C hDD n x1 T0 Sj T1 Rd Lk Jd Ld Pr rt zz qq h h0 h1) n _ q6 hq6 ?_ _ _ _ hP hS (lv_sub hl [2, 3, 1, 0] rfl)
  intro H locs ls hP hS hl
  cases h
  exact o_rv C hP hS d_Ck_inspectSchema_51
set_option maxHeartbeats 4000000 in
set_option maxRecDepth 100000 in
theorem w_Mk_keyword_j21 {E : (Nat → Prop) → State → Heap → Prop} {p : Program} {l : Launch} {e : Env} {s : State} {m : MethodId} {args : Array Value} {below : List Frame} {meth : Method} {c : Code} {D : va_G} {ad kd sd vd xd : Nat → Nat} {ca : Nat → ClassId} {A : Nat → Prop} (hE : o_EK E kd sd vd xd) (C : o_Cx E p s m args meth c D o_cls (o_tys ca) "SchemaJudge$Marks" b_Mk_keyword (some (.object "SchemaJudge$Keyword")) 2 cc_Mk_keyword A) (hDD : ∀ (rt : Nat) (Sj : SSJ) (T0 : STx) (T1 : STx) (Rd : SRd) (Pg : SPg) (Pt : SPt) (Mk : SMk) (Lk : SLk) (Ck : SCk) (Jd : SJd) (Ld : SLd) (Pr : SPr), va_D A (o_cw ad ca rt Sj T0 T1 Rd Pg Pt Mk Lk Ck Jd Ld Pr)) (y0 : Int32) (Mk : SMk) (Sj : SSJ) (T0 : STx) (T1 : STx) (Rd : SRd) (Pg : SPg) (Pt : SPt) (Lk : SLk) (Ck : SCk) (Jd : SJd) (Ld : SLd) (Pr : SPr) (rt : Nat) {r : Nat} (h : m_Mk_keyword_j21 y0 Mk = some r) : o_At p l e rm_Mk_keyword s m args below meth c (MQ below (o_Qx D o_cls (some (.ref (kd r))) (o_cw ad ca rt Sj T0 T1 Rd Pg Pt Mk Lk Ck Jd Ld Pr) A) args s 0 0 A) o_cls D A 2 21 [.int y0] (o_cw ad ca rt Sj T0 T1 Rd Pg Pt Mk Lk Ck Jd Ld Pr) [] := by
  unfold m_Mk_keyword_j21 at h
  intro H locs ls hP hS hl
  have C0 := C
  obtain ⟨hx, hb, -, -, -, hown, hts, hK, -, -⟩ := C0
  obtain ⟨q1, hq1, h⟩ := o_bd_some h
  obtain ⟨g2, h⟩ := o_gd_some h
  refine o_S (st1 := [.ref (kd q1)]) (w1 := (o_cw ad ca rt Sj T0 T1 Rd Pg Pt Mk Lk Ck Jd Ld Pr)) hE.1 C (c_Kw_numbered hE l y0 Sj T0 T1 Rd Pg Pt Mk Lk Ck Jd Ld Pr rt hq1) hP (hDD _ _ _ _ _ _ _ _ _ _ _ _ _) hS hl.1 k_4_87 k_4_88 k_1_25 k_4_89 hs_Kw_numbered rfl rfl ⟨(Nat.le_of_ble_eq_true rfl), (Nat.le_of_ble_eq_true rfl)⟩ rfl (Nat.le_of_ble_eq_true rfl) ⟨Nat.zero_le _, Nat.zero_le _⟩ rfl d_Mk_keyword_21 (fun H locs hP hS => ?_)
  cases h
  exact o_ra C ⟨_, rfl⟩ hP hS d_Mk_keyword_24
set_option maxHeartbeats 4000000 in
set_option maxRecDepth 100000 in
theorem c_Mk_keyword {E : (Nat → Prop) → State → Heap → Prop} {D : va_G} {ad kd sd vd xd : Nat → Nat} {ca : Nat → ClassId} (hE : o_EK E kd sd vd xd) (l : Launch) (x1 : Int32) (Mk : SMk) (Sj : SSJ) (T0 : STx) (T1 : STx) (Rd : SRd) (Pg : SPg) (Pt : SPt) (Lk : SLk) (Ck : SCk) (Jd : SJd) (Ld : SLd) (Pr : SPr) (rt : Nat) {r : Nat} (h : m_Mk_keyword x1 Mk = some r) : o_Cn E l D o_cls (o_tys ca) y_Mk_keyword cc_Mk_keyword rm_Mk_keyword [.ref (ad 39), .int x1] (o_cw ad ca rt Sj T0 T1 Rd Pg Pt Mk Lk Ck Jd Ld Pr) (o_cw ad ca rt Sj T0 T1 Rd Pg Pt Mk Lk Ck Jd Ld Pr) (some (.ref (kd r))) := by
  refine o_Cn_of (by decide) (Nat.le_of_ble_eq_true rfl) ?_
  intro p e s m below meth c A ls C hD hP hS hl
  have hDD : ∀ (rt : Nat) (Sj : SSJ) (T0 : STx) (T1 : STx) (Rd : SRd) (Pg : SPg) (Pt : SPt) (Mk : SMk) (Lk : SLk) (Ck : SCk) (Jd : SJd) (Ld : SLd) (Pr : SPr), va_D A (o_cw ad ca rt Sj T0 T1 Rd Pg Pt Mk Lk Ck Jd Ld Pr) := fun _ _ _ _ _ _ _ _ _ _ _ _ _ => o_D_map hD rfl
  have hl : lv_has ls 2 [(0, .ref (ad 39)), (1, .int x1)] := hl
  unfold m_Mk_keyword at h
  have C0 := C
  obtain ⟨hx, hb, -, -, -, hown, hts, hK, -, -⟩ := C0
  refine lv_iload_n hx hb d_Mk_keyword_0 rfl (lv_at hl 1 rfl) ?_
  refine lv_if_lt (tgt := 20) hx hb d_Mk_keyword_1 (by decide) (fun c1 => ?_) (fun c1 => ?_)
  · replace h := o_tt c1 h
    refine lv_iconst (v := (0:Int32)) hx hb d_Mk_keyword_20 (by decide) ?_
    exact w_Mk_keyword_j21 hE C hDD (0:Int32) Mk Sj T0 T1 Rd Pg Pt Lk Ck Jd Ld Pr rt h _ _ _ hP hS (lv_sub hl [] rfl)
  · replace h := o_ff c1 h
    refine lv_iload_n hx hb d_Mk_keyword_4 rfl (lv_at hl 1 rfl) ?_
    refine lv_sipush (v := (1000:Int32)) hx hb d_Mk_keyword_5 (by decide) ?_
    refine lv_icmp_ge (tgt := 20) hx hb d_Mk_keyword_8 (by decide) (fun c3 => ?_) (fun c3 => ?_)
    · replace h := o_tt c3 h
      refine lv_iconst (v := (0:Int32)) hx hb d_Mk_keyword_20 (by decide) ?_
      exact w_Mk_keyword_j21 hE C hDD (0:Int32) Mk Sj T0 T1 Rd Pg Pt Lk Ck Jd Ld Pr rt h _ _ _ hP hS (lv_sub hl [] rfl)
    · replace h := o_ff c3 h
      refine lv_aload_n hx hb d_Mk_keyword_11 rfl (lv_at hl 0 rfl) ?_
      refine o_get (v := .ref (ad 40)) C in_Mk hP 39 cw_39 rfl 1 (by decide) k_1_207 rfl rfl d_Mk_keyword_12 ?_
      refine lv_iload_n hx hb d_Mk_keyword_15 rfl (lv_at hl 1 rfl) ?_
      obtain ⟨g4, h⟩ := o_gd_some h
      refine o_iald (f := (Mk_keywords Mk)) C hP 40 33 cw_40 rfl g4 d_Mk_keyword_16 ?_
      refine lv_goto (tgt := 21) hx hb d_Mk_keyword_17 (by decide) ?_
      exact w_Mk_keyword_j21 hE C hDD ((Mk_keywords Mk) x1.toNatClampNeg) Mk Sj T0 T1 Rd Pg Pt Lk Ck Jd Ld Pr rt h _ _ _ hP hS (lv_sub hl [] rfl)
set_option maxHeartbeats 4000000 in
set_option maxRecDepth 100000 in
theorem c_Ck_isAnchorValue {E : (Nat → Prop) → State → Heap → Prop} {D : va_G} {ad kd sd vd xd : Nat → Nat} {ca : Nat → ClassId} (hE : o_EK E kd sd vd xd) (l : Launch) (x1 : Int32) (T0 : STx) (Mk : SMk) (Sj : SSJ) (T1 : STx) (Rd : SRd) (Pg : SPg) (Pt : SPt) (Lk : SLk) (Ck : SCk) (Jd : SJd) (Ld : SLd) (Pr : SPr) (rt : Nat) {r : Int32} (h : m_Ck_isAnchorValue x1 T0 Mk = some r) : o_Cn E l D o_cls (o_tys ca) y_Ck_isAnchorValue cc_Ck_isAnchorValue rm_Ck_isAnchorValue [.ref (ad 45), .int x1] (o_cw ad ca rt Sj T0 T1 Rd Pg Pt Mk Lk Ck Jd Ld Pr) (o_cw ad ca rt Sj T0 T1 Rd Pg Pt Mk Lk Ck Jd Ld Pr) (some (.int r)) := by
  refine o_Cn_of (by decide) (Nat.le_of_ble_eq_true rfl) ?_
  intro p e s m below meth c A ls C hD hP hS hl
  have hDD : ∀ (rt : Nat) (Sj : SSJ) (T0 : STx) (T1 : STx) (Rd : SRd) (Pg : SPg) (Pt : SPt) (Mk : SMk) (Lk : SLk) (Ck : SCk) (Jd : SJd) (Ld : SLd) (Pr : SPr), va_D A (o_cw ad ca rt Sj T0 T1 Rd Pg Pt Mk Lk Ck Jd Ld Pr) := fun _ _ _ _ _ _ _ _ _ _ _ _ _ => o_D_map hD rfl
  have hl : lv_has ls 2 [(0, .ref (ad 45)), (1, .int x1)] := hl
  unfold m_Ck_isAnchorValue at h
  have C0 := C
  obtain ⟨hx, hb, -, -, -, hown, hts, hK, -, -⟩ := C0
  refine lv_aload_n hx hb d_Ck_isAnchorValue_0 rfl (lv_at hl 0 rfl) ?_
  refine o_get (v := .ref (ad 39)) C in_Ck hP 45 cw_45 rfl 1 (by decide) k_2_8 rfl rfl d_Ck_isAnchorValue_1 ?_
  refine lv_iload_n hx hb d_Ck_isAnchorValue_4 rfl (lv_at hl 1 rfl) ?_
  obtain ⟨q1, hq1, h⟩ := o_bd_some h
  obtain ⟨g1, h⟩ := o_gd_some h
  refine o_V (st1 := [.ref (kd q1)]) (w1 := (o_cw ad ca rt Sj T0 T1 Rd Pg Pt Mk Lk Ck Jd Ld Pr)) hE.1 C (c_Mk_keyword hE l x1 Mk Sj T0 T1 Rd Pg Pt Lk Ck Jd Ld Pr rt hq1) hP (hDD _ _ _ _ _ _ _ _ _ _ _ _ _) hS hl.1 rfl cw_39 k_5_122 k_5_123 k_5_124 k_1_6 k_5_125 hv_Mk_keyword rfl rfl ⟨(Nat.le_of_ble_eq_true rfl), (Nat.le_of_ble_eq_true rfl)⟩ rfl (Nat.le_of_ble_eq_true rfl) ⟨Nat.zero_le _, Nat.zero_le _⟩ rfl d_Ck_isAnchorValue_5 (fun H locs hP hS => ?_)
  refine va_gets (v := .ref (kd 34)) hx hb ((hE.2.2.1 _ _ _ C.2.2.2.2.2.2.2.2.2).1 34 (by decide)).1 hS hown (hts _ k_5_126) (fun _ h9 => h9) d_Ck_isAnchorValue_8 ?_
  refine lv_acmp_ne (rx := some (kd q1)) (ry := some (kd 34)) (tgt := 30) hx hb d_Ck_isAnchorValue_11 (by decide) (fun c2 => ?_) (fun c2 => ?_)
  · replace h := o_ff (o_kn_ c2) h
    refine lv_iconst (v := (0:Int32)) hx hb d_Ck_isAnchorValue_30 (by decide) ?_
    cases h
    exact o_rz (v := (0:Int32)) C o_nar0 hP hS d_Ck_isAnchorValue_31
  · replace h := o_tt (o_ki hE C g1 rfl c2) h
    refine lv_aload_n hx hb d_Ck_isAnchorValue_14 rfl (lv_at hl 0 rfl) ?_
    refine o_get (v := .ref (ad 1)) C in_Ck hP 45 cw_45 rfl 0 (by decide) k_2_7 rfl rfl d_Ck_isAnchorValue_15 ?_
    refine lv_iload_n hx hb d_Ck_isAnchorValue_18 rfl (lv_at hl 1 rfl) ?_
    obtain ⟨q2, hq2, h⟩ := o_bd_some h
    refine o_V (st1 := [.int q2]) (w1 := (o_cw ad ca rt Sj T0 T1 Rd Pg Pt Mk Lk Ck Jd Ld Pr)) hE.1 C (c_Tx_kind_0 hE l x1 T0 Sj T1 Rd Pg Pt Mk Lk Ck Jd Ld Pr rt hq2) hP (hDD _ _ _ _ _ _ _ _ _ _ _ _ _) hS hl.1 rfl cw_1 k_4_96 k_4_50 k_4_51 k_1_2 k_4_52 hv_Tx_kind rfl rfl ⟨(Nat.le_of_ble_eq_true rfl), (Nat.le_of_ble_eq_true rfl)⟩ rfl (Nat.le_of_ble_eq_true rfl) ⟨Nat.zero_le _, Nat.zero_le _⟩ rfl d_Ck_isAnchorValue_19 (fun H locs hP hS => ?_)
    refine lv_iconst (v := (4:Int32)) hx hb d_Ck_isAnchorValue_22 (by decide) ?_
    refine lv_icmp_ne (tgt := 30) hx hb d_Ck_isAnchorValue_23 (by decide) (fun c3 => ?_) (fun c3 => ?_)
    · replace h := o_ff c3 h
      refine lv_iconst (v := (0:Int32)) hx hb d_Ck_isAnchorValue_30 (by decide) ?_
      cases h
      exact o_rz (v := (0:Int32)) C o_nar0 hP hS d_Ck_isAnchorValue_31
    · replace h := o_tt c3 h
      refine lv_iconst (v := (1:Int32)) hx hb d_Ck_isAnchorValue_26 (by decide) ?_
      refine lv_goto (tgt := 31) hx hb d_Ck_isAnchorValue_27 (by decide) ?_
      cases h
      exact o_rz (v := (1:Int32)) C o_nar1 hP hS d_Ck_isAnchorValue_31
set_option maxHeartbeats 4000000 in
set_option maxRecDepth 100000 in
theorem w_Ck_hasElderAnchor_b2 {E : (Nat → Prop) → State → Heap → Prop} {p : Program} {l : Launch} {e : Env} {s : State} {m : MethodId} {args : Array Value} {below : List Frame} {meth : Method} {c : Code} {D : va_G} {ad kd sd vd xd : Nat → Nat} {ca : Nat → ClassId} {A : Nat → Prop} {Q : State → Prop} (hE : o_EK E kd sd vd xd) (C : o_Cx E p s m args meth c D o_cls (o_tys ca) "SchemaJudge$Checker" b_Ck_hasElderAnchor (some .boolean) 3 cc_Ck_hasElderAnchor A) (hDD : ∀ (rt : Nat) (Sj : SSJ) (T0 : STx) (T1 : STx) (Rd : SRd) (Pg : SPg) (Pt : SPt) (Mk : SMk) (Lk : SLk) (Ck : SCk) (Jd : SJd) (Ld : SLd) (Pr : SPr), va_D A (o_cw ad ca rt Sj T0 T1 Rd Pg Pt Mk Lk Ck Jd Ld Pr)) (n : Nat) (u2_x1 : Int32) (u2_T0 : STx) (u2_Mk : SMk) (u2_Sj : SSJ) (u2_T1 : STx) (u2_Rd : SRd) (u2_Pg : SPg) (u2_Pt : SPt) (u2_Lk : SLk) (u2_Ck : SCk) (u2_Jd : SJd) (u2_Ld : SLd) (u2_Pr : SPr) (u2_rt : Nat) (z : Int32) (q : Nat × Int32) (h : m_Ck_hasElderAnchor_b2 n u2_x1 u2_T0 u2_Mk z = some q) (h0 : q.1 = 0 → o_At p l e rm_Ck_hasElderAnchor s m args below meth c Q o_cls D A 3 2 [] (o_cw ad ca u2_rt u2_Sj u2_T0 u2_T1 u2_Rd u2_Pg u2_Pt u2_Mk u2_Lk u2_Ck u2_Jd u2_Ld u2_Pr) [(0, .ref (ad 45)), (1, .int u2_x1), (2, .int q.2)]) (h1 : q.1 ≠ 0 → (if q.1 = 1 then o_At p l e rm_Ck_hasElderAnchor s m args below meth c Q o_cls D A 3 31 [] (o_cw ad ca u2_rt u2_Sj u2_T0 u2_T1 u2_Rd u2_Pg u2_Pt u2_Mk u2_Lk u2_Ck u2_Jd u2_Ld u2_Pr) [] else o_At p l e rm_Ck_hasElderAnchor s m args below meth c Q o_cls D A 3 39 [] (o_cw ad ca u2_rt u2_Sj u2_T0 u2_T1 u2_Rd u2_Pg u2_Pt u2_Mk u2_Lk u2_Ck u2_Jd u2_Ld u2_Pr) [])) : o_At p l e rm_Ck_hasElderAnchor s m args below meth c Q o_cls D A 3 2 [] (o_cw ad ca u2_rt u2_Sj u2_T0 u2_T1 u2_Rd u2_Pg u2_Pt u2_Mk u2_Lk u2_Ck u2_Jd u2_Ld u2_Pr) [(0, .ref (ad 45)), (1, .int u2_x1), (2, .int z)] := by
  unfold m_Ck_hasElderAnchor_b2 at h
  intro H locs ls hP hS hl
  have C0 := C
  obtain ⟨hx, hb, -, -, -, hown, hts, hK, -, -⟩ := C0
  refine lv_iload_n hx hb d_Ck_hasElderAnchor_2 rfl (lv_at hl 2 rfl) ?_
  refine lv_iload_n hx hb d_Ck_hasElderAnchor_3 rfl (lv_at hl 1 rfl) ?_
  refine lv_icmp_ge (tgt := 39) hx hb d_Ck_hasElderAnchor_4 (by decide) (fun c1 => ?_) (fun c1 => ?_)
  · replace h := o_tt c1 h
    cases h
    exact h1 (Nat.succ_ne_zero 1) _ _ _ hP hS (lv_sub hl [] rfl)
  · replace h := o_ff c1 h
    refine lv_aload_n hx hb d_Ck_hasElderAnchor_7 rfl (lv_at hl 0 rfl) ?_
    refine lv_iload_n hx hb d_Ck_hasElderAnchor_8 rfl (lv_at hl 2 rfl) ?_
    obtain ⟨q1, hq1, h⟩ := o_bd_some h
    refine o_V (st1 := [.int q1]) (w1 := (o_cw ad ca u2_rt u2_Sj u2_T0 u2_T1 u2_Rd u2_Pg u2_Pt u2_Mk u2_Lk u2_Ck u2_Jd u2_Ld u2_Pr)) hE.1 C (c_Ck_isAnchorValue hE l z u2_T0 u2_Mk u2_Sj u2_T1 u2_Rd u2_Pg u2_Pt u2_Lk u2_Ck u2_Jd u2_Ld u2_Pr u2_rt hq1) hP (hDD _ _ _ _ _ _ _ _ _ _ _ _ _) hS hl.1 rfl cw_45 k_5_118 k_5_120 k_s_44 k_1_7 k_5_121 hv_Ck_isAnchorValue rfl rfl ⟨(Nat.le_of_ble_eq_true rfl), (Nat.le_of_ble_eq_true rfl)⟩ rfl (Nat.le_of_ble_eq_true rfl) ⟨Nat.zero_le _, Nat.zero_le _⟩ rfl d_Ck_hasElderAnchor_9 (fun H locs hP hS => ?_)
    refine lv_if_eq (tgt := 33) hx hb d_Ck_hasElderAnchor_12 (by decide) (fun c2 => ?_) (fun c2 => ?_)
    · replace h := o_tt c2 h
      obtain ⟨x2_33, ex2_33⟩ : ∃ y : Int32, y = z + (1:Int32) := ⟨_, rfl⟩
      replace h := o_nm_at ex2_33 h
      refine lv_iinc (v := x2_33) (lv' := [(2, .int x2_33), (0, .ref (ad 45)), (1, .int u2_x1)]) hx hb d_Ck_hasElderAnchor_33 hl (k := 2) rfl (by rw [ex2_33]; rfl) (by decide) rfl (fun ls hl => ?_)
      refine lv_goto (tgt := 2) hx hb d_Ck_hasElderAnchor_36 (by decide) ?_
      cases h
      exact h0 rfl _ _ _ hP hS (lv_sub hl [1, 2, 0] rfl)
    · replace h := o_ff c2 h
      refine lv_aload_n hx hb d_Ck_hasElderAnchor_15 rfl (lv_at hl 0 rfl) ?_
      refine o_get (v := .ref (ad 1)) C in_Ck hP 45 cw_45 rfl 0 (by decide) k_2_7 rfl rfl d_Ck_hasElderAnchor_16 ?_
      refine lv_iload_n hx hb d_Ck_hasElderAnchor_19 rfl (lv_at hl 2 rfl) ?_
      refine lv_aload_n hx hb d_Ck_hasElderAnchor_20 rfl (lv_at hl 0 rfl) ?_
      refine o_get (v := .ref (ad 1)) C in_Ck hP 45 cw_45 rfl 0 (by decide) k_2_7 rfl rfl d_Ck_hasElderAnchor_21 ?_
      refine lv_iload_n hx hb d_Ck_hasElderAnchor_24 rfl (lv_at hl 1 rfl) ?_
      obtain ⟨q2, hq2, h⟩ := o_bd_some h
      refine o_S (st1 := [.int q2]) (w1 := (o_cw ad ca u2_rt u2_Sj u2_T0 u2_T1 u2_Rd u2_Pg u2_Pt u2_Mk u2_Lk u2_Ck u2_Jd u2_Ld u2_Pr)) hE.1 C (c_Tx_sameString_00 hE l n z u2_x1 u2_T0 u2_Sj u2_T1 u2_Rd u2_Pg u2_Pt u2_Mk u2_Lk u2_Ck u2_Jd u2_Ld u2_Pr u2_rt hq2) hP (hDD _ _ _ _ _ _ _ _ _ _ _ _ _) hS hl.1 k_5_109 k_3_219 k_1_2 k_3_220 hs_Tx_sameString rfl rfl ⟨(Nat.le_of_ble_eq_true rfl), (Nat.le_of_ble_eq_true rfl)⟩ rfl (Nat.le_of_ble_eq_true rfl) ⟨Nat.zero_le _, Nat.zero_le _⟩ rfl d_Ck_hasElderAnchor_25 (fun H locs hP hS => ?_)
      refine lv_if_eq (tgt := 33) hx hb d_Ck_hasElderAnchor_28 (by decide) (fun c3 => ?_) (fun c3 => ?_)
      · replace h := o_tt c3 h
        obtain ⟨x2_33, ex2_33⟩ : ∃ y : Int32, y = z + (1:Int32) := ⟨_, rfl⟩
        replace h := o_nm_at ex2_33 h
        refine lv_iinc (v := x2_33) (lv' := [(2, .int x2_33), (0, .ref (ad 45)), (1, .int u2_x1)]) hx hb d_Ck_hasElderAnchor_33 hl (k := 2) rfl (by rw [ex2_33]; rfl) (by decide) rfl (fun ls hl => ?_)
        refine lv_goto (tgt := 2) hx hb d_Ck_hasElderAnchor_36 (by decide) ?_
        cases h
        exact h0 rfl _ _ _ hP hS (lv_sub hl [1, 2, 0] rfl)
      · replace h := o_ff c3 h
        cases h
        exact h1 (Nat.succ_ne_zero 0) _ _ _ hP hS (lv_sub hl [] rfl)
set_option maxHeartbeats 4000000 in
set_option maxRecDepth 100000 in
theorem c_Ck_hasElderAnchor {E : (Nat → Prop) → State → Heap → Prop} {D : va_G} {ad kd sd vd xd : Nat → Nat} {ca : Nat → ClassId} (hE : o_EK E kd sd vd xd) (l : Launch) (n : Nat) (x1 : Int32) (T0 : STx) (Mk : SMk) (Sj : SSJ) (T1 : STx) (Rd : SRd) (Pg : SPg) (Pt : SPt) (Lk : SLk) (Ck : SCk) (Jd : SJd) (Ld : SLd) (Pr : SPr) (rt : Nat) {r : Int32} (h : m_Ck_hasElderAnchor n x1 T0 Mk = some r) : o_Cn E l D o_cls (o_tys ca) y_Ck_hasElderAnchor cc_Ck_hasElderAnchor rm_Ck_hasElderAnchor [.ref (ad 45), .int x1] (o_cw ad ca rt Sj T0 T1 Rd Pg Pt Mk Lk Ck Jd Ld Pr) (o_cw ad ca rt Sj T0 T1 Rd Pg Pt Mk Lk Ck Jd Ld Pr) (some (.int r)) := by
  refine o_Cn_of (by decide) (Nat.le_of_ble_eq_true rfl) ?_
  intro p e s m below meth c A ls C hD hP hS hl
  have hDD : ∀ (rt : Nat) (Sj : SSJ) (T0 : STx) (T1 : STx) (Rd : SRd) (Pg : SPg) (Pt : SPt) (Mk : SMk) (Lk : SLk) (Ck : SCk) (Jd : SJd) (Ld : SLd) (Pr : SPr), va_D A (o_cw ad ca rt Sj T0 T1 Rd Pg Pt Mk Lk Ck Jd Ld Pr) := fun _ _ _ _ _ _ _ _ _ _ _ _ _ => o_D_map hD rfl
  have hl : lv_has ls 3 [(0, .ref (ad 45)), (1, .int x1)] := hl
  unfold m_Ck_hasElderAnchor at h
  have C0 := C
  obtain ⟨hx, hb, -, -, -, hown, hts, hK, -, -⟩ := C0
  refine lv_iconst (v := (0:Int32)) hx hb d_Ck_hasElderAnchor_0 (by decide) ?_
  refine lv_istore_n (lv' := [(2, .int (0:Int32)), (0, .ref (ad 45)), (1, .int x1)]) hx hb d_Ck_hasElderAnchor_1 rfl hl (by decide) rfl (fun ls hl => ?_)
  obtain ⟨q3, hq3, h⟩ := o_bd_some h
  refine o_sim2 (AH := fun zz => o_At p l e rm_Ck_hasElderAnchor s m _ below meth c _ o_cls D A 3 2 [] (o_cw ad ca rt Sj T0 T1 Rd Pg Pt Mk Lk Ck Jd Ld Pr) [(0, .ref (ad 45)), (1, .int x1), (2, .int zz)]) (AX := fun qq => if qq.1 = 1 then o_At p l e rm_Ck_hasElderAnchor s m _ below meth c _ o_cls D A 3 31 [] (o_cw ad ca rt Sj T0 T1 Rd Pg Pt Mk Lk Ck Jd Ld Pr) [] else o_At p l e rm_Ck_hasElderAnchor s m _ below meth c _ o_cls D A 3 39 [] (o_cw ad ca rt Sj T0 T1 Rd Pg Pt Mk Lk Ck Jd Ld Pr) []) (fun zz qq h h0 h1 => w_Ck_hasElderAnchor_b2 hE C hDD n x1 T0 Mk Sj T1 Rd Pg Pt Lk Ck Jd Ld Pr rt zz qq h h0 h1) n _ q3 hq3 ?_ _ _ _ hP hS (lv_sub hl [1, 2, 0] rfl)
  by_cases c4 : q3.1 = 1
  · replace h := o_tt c4 h
    refine o_ip c4 ?_
    intro H locs ls hP hS hl
    refine lv_iconst (v := (1:Int32)) hx hb d_Ck_hasElderAnchor_31 (by decide) ?_
    cases h
    exact o_rz (v := (1:Int32)) C o_nar1 hP hS d_Ck_hasElderAnchor_32
  replace h := o_ff c4 h
  refine o_in_ c4 ?_
  intro H locs ls hP hS hl
  refine lv_iconst (v := (0:Int32)) hx hb d_Ck_hasElderAnchor_39 (by decide) ?_
  cases h
  exact o_rz (v := (0:Int32)) C o_nar0 hP hS d_Ck_hasElderAnchor_40
set_option maxHeartbeats 4000000 in
set_option maxRecDepth 100000 in
theorem c_Tx_total_0 {E : (Nat → Prop) → State → Heap → Prop} {D : va_G} {ad kd sd vd xd : Nat → Nat} {ca : Nat → ClassId} (hE : o_EK E kd sd vd xd) (l : Launch)  (a0 : STx) (Sj : SSJ) (T1 : STx) (Rd : SRd) (Pg : SPg) (Pt : SPt) (Mk : SMk) (Lk : SLk) (Ck : SCk) (Jd : SJd) (Ld : SLd) (Pr : SPr) (rt : Nat) {r : Int32} (h : m_Tx_total a0 = some r) : o_Cn E l D o_cls (o_tys ca) y_Tx_total cc_Tx_total rm_Tx_total [.ref (ad 1)] (o_cw ad ca rt Sj a0 T1 Rd Pg Pt Mk Lk Ck Jd Ld Pr) (o_cw ad ca rt Sj a0 T1 Rd Pg Pt Mk Lk Ck Jd Ld Pr) (some (.int r)) := by
  refine o_Cn_of (by decide) (Nat.le_of_ble_eq_true rfl) ?_
  intro p e s m below meth c A ls C hD hP hS hl
  have hDD : ∀ (rt : Nat) (Sj : SSJ) (T0 : STx) (T1 : STx) (Rd : SRd) (Pg : SPg) (Pt : SPt) (Mk : SMk) (Lk : SLk) (Ck : SCk) (Jd : SJd) (Ld : SLd) (Pr : SPr), va_D A (o_cw ad ca rt Sj T0 T1 Rd Pg Pt Mk Lk Ck Jd Ld Pr) := fun _ _ _ _ _ _ _ _ _ _ _ _ _ => o_D_map hD rfl
  have hl : lv_has ls 1 [(0, .ref (ad 1))] := hl
  unfold m_Tx_total at h
  have C0 := C
  obtain ⟨hx, hb, -, -, -, hown, hts, hK, -, -⟩ := C0
  refine lv_aload_n hx hb d_Tx_total_0 rfl (lv_at hl 0 rfl) ?_
  refine o_get (v := .int (Tx_total a0)) C in_Tx hP 1 cw_1 rfl 10 (by decide) k_1_56 rfl rfl d_Tx_total_1 ?_
  cases h
  exact o_ri (v := (Tx_total a0)) C hP hS d_Tx_total_4
set_option maxHeartbeats 4000000 in
set_option maxRecDepth 100000 in
theorem w_Ck_compareAnchors_b2 {E : (Nat → Prop) → State → Heap → Prop} {p : Program} {l : Launch} {e : Env} {s : State} {m : MethodId} {args : Array Value} {below : List Frame} {meth : Method} {c : Code} {D : va_G} {ad kd sd vd xd : Nat → Nat} {ca : Nat → ClassId} {A : Nat → Prop} {Q : State → Prop} (hE : o_EK E kd sd vd xd) (C : o_Cx E p s m args meth c D o_cls (o_tys ca) "SchemaJudge$Checker" b_Ck_compareAnchors none 2 cc_Ck_compareAnchors A) (hDD : ∀ (rt : Nat) (Sj : SSJ) (T0 : STx) (T1 : STx) (Rd : SRd) (Pg : SPg) (Pt : SPt) (Mk : SMk) (Lk : SLk) (Ck : SCk) (Jd : SJd) (Ld : SLd) (Pr : SPr), va_D A (o_cw ad ca rt Sj T0 T1 Rd Pg Pt Mk Lk Ck Jd Ld Pr)) (n : Nat) (u2_T0 : STx) (u2_Mk : SMk) (u2_Sj : SSJ) (u2_T1 : STx) (u2_Rd : SRd) (u2_Pg : SPg) (u2_Pt : SPt) (u2_Lk : SLk) (u2_Jd : SJd) (u2_Ld : SLd) (u2_Pr : SPr) (u2_rt : Nat) (z : Int32 × SCk) (q : Nat × Int32 × SCk) (h : m_Ck_compareAnchors_b2 n u2_T0 u2_Mk z = some q) (h0 : q.1 = 0 → o_At p l e rm_Ck_compareAnchors s m args below meth c Q o_cls D A 2 2 [] (o_cw ad ca u2_rt u2_Sj u2_T0 u2_T1 u2_Rd u2_Pg u2_Pt u2_Mk u2_Lk q.2.2 u2_Jd u2_Ld u2_Pr) [(0, .ref (ad 45)), (1, .int q.2.1)]) (h1 : q.1 ≠ 0 → (o_At p l e rm_Ck_compareAnchors s m args below meth c Q o_cls D A 2 41 [] (o_cw ad ca u2_rt u2_Sj u2_T0 u2_T1 u2_Rd u2_Pg u2_Pt u2_Mk u2_Lk q.2.2 u2_Jd u2_Ld u2_Pr) [])) : o_At p l e rm_Ck_compareAnchors s m args below meth c Q o_cls D A 2 2 [] (o_cw ad ca u2_rt u2_Sj u2_T0 u2_T1 u2_Rd u2_Pg u2_Pt u2_Mk u2_Lk z.2 u2_Jd u2_Ld u2_Pr) [(0, .ref (ad 45)), (1, .int z.1)] := by
  unfold m_Ck_compareAnchors_b2 at h
  intro H locs ls hP hS hl
  have C0 := C
  obtain ⟨hx, hb, -, -, -, hown, hts, hK, -, -⟩ := C0
  refine lv_iload_n hx hb d_Ck_compareAnchors_2 rfl (lv_at hl 1 rfl) ?_
  refine lv_aload_n hx hb d_Ck_compareAnchors_3 rfl (lv_at hl 0 rfl) ?_
  refine o_get (v := .ref (ad 1)) C in_Ck hP 45 cw_45 rfl 0 (by decide) k_2_7 rfl rfl d_Ck_compareAnchors_4 ?_
  obtain ⟨q1, hq1, h⟩ := o_bd_some h
  refine o_V (st1 := [.int q1, .int z.1]) (w1 := (o_cw ad ca u2_rt u2_Sj u2_T0 u2_T1 u2_Rd u2_Pg u2_Pt u2_Mk u2_Lk z.2 u2_Jd u2_Ld u2_Pr)) hE.1 C (c_Tx_total_0 hE l u2_T0 u2_Sj u2_T1 u2_Rd u2_Pg u2_Pt u2_Mk u2_Lk z.2 u2_Jd u2_Ld u2_Pr u2_rt hq1) hP (hDD _ _ _ _ _ _ _ _ _ _ _ _ _) hS hl.1 rfl cw_1 k_4_61 k_4_6 k_4_7 k_1_2 k_4_8 hv_Tx_total rfl rfl ⟨(Nat.le_of_ble_eq_true rfl), (Nat.le_of_ble_eq_true rfl)⟩ rfl (Nat.le_of_ble_eq_true rfl) ⟨Nat.zero_le _, Nat.zero_le _⟩ rfl d_Ck_compareAnchors_7 (fun H locs hP hS => ?_)
  refine lv_icmp_ge (tgt := 41) hx hb d_Ck_compareAnchors_10 (by decide) (fun c1 => ?_) (fun c1 => ?_)
  · replace h := o_tt c1 h
    cases h
    exact h1 (Nat.succ_ne_zero 0) _ _ _ hP hS (lv_sub hl [] rfl)
  · replace h := o_ff c1 h
    refine lv_aload_n hx hb d_Ck_compareAnchors_13 rfl (lv_at hl 0 rfl) ?_
    refine lv_iload_n hx hb d_Ck_compareAnchors_14 rfl (lv_at hl 1 rfl) ?_
    obtain ⟨q2, hq2, h⟩ := o_bd_some h
    refine o_V (st1 := [.int q2]) (w1 := (o_cw ad ca u2_rt u2_Sj u2_T0 u2_T1 u2_Rd u2_Pg u2_Pt u2_Mk u2_Lk z.2 u2_Jd u2_Ld u2_Pr)) hE.1 C (c_Ck_isAnchorValue hE l z.1 u2_T0 u2_Mk u2_Sj u2_T1 u2_Rd u2_Pg u2_Pt u2_Lk z.2 u2_Jd u2_Ld u2_Pr u2_rt hq2) hP (hDD _ _ _ _ _ _ _ _ _ _ _ _ _) hS hl.1 rfl cw_45 k_5_118 k_5_120 k_s_44 k_1_7 k_5_121 hv_Ck_isAnchorValue rfl rfl ⟨(Nat.le_of_ble_eq_true rfl), (Nat.le_of_ble_eq_true rfl)⟩ rfl (Nat.le_of_ble_eq_true rfl) ⟨Nat.zero_le _, Nat.zero_le _⟩ rfl d_Ck_compareAnchors_15 (fun H locs hP hS => ?_)
    refine lv_if_eq (tgt := 35) hx hb d_Ck_compareAnchors_18 (by decide) (fun c2 => ?_) (fun c2 => ?_)
    · replace h := o_tt c2 h
      obtain ⟨x1_35, ex1_35⟩ : ∃ y : Int32, y = z.1 + (1:Int32) := ⟨_, rfl⟩
      replace h := o_nm_at ex1_35 h
      refine lv_iinc (v := x1_35) (lv' := [(1, .int x1_35), (0, .ref (ad 45))]) hx hb d_Ck_compareAnchors_35 hl (k := 1) rfl (by rw [ex1_35]; rfl) (by decide) rfl (fun ls hl => ?_)
      refine lv_goto (tgt := 2) hx hb d_Ck_compareAnchors_38 (by decide) ?_
      cases h
      exact h0 rfl _ _ _ hP hS (lv_sub hl [1, 0] rfl)
    · replace h := o_ff c2 h
      refine lv_aload_n hx hb d_Ck_compareAnchors_21 rfl (lv_at hl 0 rfl) ?_
      refine lv_iload_n hx hb d_Ck_compareAnchors_22 rfl (lv_at hl 1 rfl) ?_
      obtain ⟨q3, hq3, h⟩ := o_bd_some h
      refine o_V (st1 := [.int q3]) (w1 := (o_cw ad ca u2_rt u2_Sj u2_T0 u2_T1 u2_Rd u2_Pg u2_Pt u2_Mk u2_Lk z.2 u2_Jd u2_Ld u2_Pr)) hE.1 C (c_Ck_hasElderAnchor hE l n z.1 u2_T0 u2_Mk u2_Sj u2_T1 u2_Rd u2_Pg u2_Pt u2_Lk z.2 u2_Jd u2_Ld u2_Pr u2_rt hq3) hP (hDD _ _ _ _ _ _ _ _ _ _ _ _ _) hS hl.1 rfl cw_45 k_5_128 k_5_130 k_s_45 k_1_7 k_5_131 hv_Ck_hasElderAnchor rfl rfl ⟨(Nat.le_of_ble_eq_true rfl), (Nat.le_of_ble_eq_true rfl)⟩ rfl (Nat.le_of_ble_eq_true rfl) ⟨Nat.zero_le _, Nat.zero_le _⟩ rfl d_Ck_compareAnchors_23 (fun H locs hP hS => ?_)
      refine lv_if_eq (tgt := 35) hx hb d_Ck_compareAnchors_26 (by decide) (fun c3 => ?_) (fun c3 => ?_)
      · replace h := o_tt c3 h
        obtain ⟨x1_35, ex1_35⟩ : ∃ y : Int32, y = z.1 + (1:Int32) := ⟨_, rfl⟩
        replace h := o_nm_at ex1_35 h
        refine lv_iinc (v := x1_35) (lv' := [(1, .int x1_35), (0, .ref (ad 45))]) hx hb d_Ck_compareAnchors_35 hl (k := 1) rfl (by rw [ex1_35]; rfl) (by decide) rfl (fun ls hl => ?_)
        refine lv_goto (tgt := 2) hx hb d_Ck_compareAnchors_38 (by decide) ?_
        cases h
        exact h0 rfl _ _ _ hP hS (lv_sub hl [1, 0] rfl)
      · replace h := o_ff c3 h
        refine lv_aload_n hx hb d_Ck_compareAnchors_29 rfl (lv_at hl 0 rfl) ?_
        refine lv_iconst (v := (3:Int32)) hx hb d_Ck_compareAnchors_30 (by decide) ?_
        refine lv_iload_n hx hb d_Ck_compareAnchors_31 rfl (lv_at hl 1 rfl) ?_
        obtain ⟨q4, hq4, h⟩ := o_bd_some h
        refine o_V (st1 := []) (w1 := (o_cw ad ca u2_rt u2_Sj u2_T0 u2_T1 u2_Rd u2_Pg u2_Pt u2_Mk u2_Lk q4 u2_Jd u2_Ld u2_Pr)) hE.1 C (c_Ck_report hE l (3:Int32) z.1 z.2 u2_Sj u2_T0 u2_T1 u2_Rd u2_Pg u2_Pt u2_Mk u2_Lk u2_Jd u2_Ld u2_Pr u2_rt hq4) hP (hDD _ _ _ _ _ _ _ _ _ _ _ _ _) hS hl.1 rfl cw_45 k_4_57 k_4_59 k_s_20 k_1_7 k_4_60 hv_Ck_report rfl rfl ⟨(Nat.le_of_ble_eq_true rfl), (Nat.le_of_ble_eq_true rfl)⟩ rfl (Nat.le_of_ble_eq_true rfl) ⟨Nat.zero_le _, Nat.zero_le _⟩ rfl d_Ck_compareAnchors_32 (fun H locs hP hS => ?_)
        obtain ⟨x1_35, ex1_35⟩ : ∃ y : Int32, y = z.1 + (1:Int32) := ⟨_, rfl⟩
        replace h := o_nm_at ex1_35 h
        refine lv_iinc (v := x1_35) (lv' := [(1, .int x1_35), (0, .ref (ad 45))]) hx hb d_Ck_compareAnchors_35 hl (k := 1) rfl (by rw [ex1_35]; rfl) (by decide) rfl (fun ls hl => ?_)
        refine lv_goto (tgt := 2) hx hb d_Ck_compareAnchors_38 (by decide) ?_
        cases h
        exact h0 rfl _ _ _ hP hS (lv_sub hl [1, 0] rfl)
set_option maxHeartbeats 4000000 in
set_option maxRecDepth 100000 in
theorem c_Ck_compareAnchors {E : (Nat → Prop) → State → Heap → Prop} {D : va_G} {ad kd sd vd xd : Nat → Nat} {ca : Nat → ClassId} (hE : o_EK E kd sd vd xd) (l : Launch) (n : Nat)  (T0 : STx) (Mk : SMk) (Ck : SCk) (Sj : SSJ) (T1 : STx) (Rd : SRd) (Pg : SPg) (Pt : SPt) (Lk : SLk) (Jd : SJd) (Ld : SLd) (Pr : SPr) (rt : Nat) {r : SCk} (h : m_Ck_compareAnchors n T0 Mk Ck = some r) : o_Cn E l D o_cls (o_tys ca) y_Ck_compareAnchors cc_Ck_compareAnchors rm_Ck_compareAnchors [.ref (ad 45)] (o_cw ad ca rt Sj T0 T1 Rd Pg Pt Mk Lk Ck Jd Ld Pr) (o_cw ad ca rt Sj T0 T1 Rd Pg Pt Mk Lk r Jd Ld Pr) none := by
  refine o_Cn_of (by decide) (Nat.le_of_ble_eq_true rfl) ?_
  intro p e s m below meth c A ls C hD hP hS hl
  have hDD : ∀ (rt : Nat) (Sj : SSJ) (T0 : STx) (T1 : STx) (Rd : SRd) (Pg : SPg) (Pt : SPt) (Mk : SMk) (Lk : SLk) (Ck : SCk) (Jd : SJd) (Ld : SLd) (Pr : SPr), va_D A (o_cw ad ca rt Sj T0 T1 Rd Pg Pt Mk Lk Ck Jd Ld Pr) := fun _ _ _ _ _ _ _ _ _ _ _ _ _ => o_D_map hD rfl
  have hl : lv_has ls 2 [(0, .ref (ad 45))] := hl
  unfold m_Ck_compareAnchors at h
  have C0 := C
  obtain ⟨hx, hb, -, -, -, hown, hts, hK, -, -⟩ := C0
  refine lv_iconst (v := (0:Int32)) hx hb d_Ck_compareAnchors_0 (by decide) ?_
  refine lv_istore_n (lv' := [(1, .int (0:Int32)), (0, .ref (ad 45))]) hx hb d_Ck_compareAnchors_1 rfl hl (by decide) rfl (fun ls hl => ?_)
  obtain ⟨q5, hq5, h⟩ := o_bd_some h
  refine o_sim2 (AH := fun zz => o_At p l e rm_Ck_compareAnchors s m _ below meth c _ o_cls D A 2 2 [] (o_cw ad ca rt Sj T0 T1 Rd Pg Pt Mk Lk zz.2 Jd Ld Pr) [(0, .ref (ad 45)), (1, .int zz.1)]) (AX := fun qq => o_At p l e rm_Ck_compareAnchors s m _ below meth c _ o_cls D A 2 41 [] (o_cw ad ca rt Sj T0 T1 Rd Pg Pt Mk Lk qq.2.2 Jd Ld Pr) []) (fun zz qq h h0 h1 => w_Ck_compareAnchors_b2 hE C hDD n T0 Mk Sj T1 Rd Pg Pt Lk Jd Ld Pr rt zz qq h h0 h1) n _ q5 hq5 ?_ _ _ _ hP hS (lv_sub hl [1, 0] rfl)
  intro H locs ls hP hS hl
  cases h
  exact o_rv C hP hS d_Ck_compareAnchors_41
set_option maxHeartbeats 4000000 in
set_option maxRecDepth 100000 in
theorem c_Lk_octetAt {E : (Nat → Prop) → State → Heap → Prop} {D : va_G} {ad kd sd vd xd : Nat → Nat} {ca : Nat → ClassId} (hE : o_EK E kd sd vd xd) (l : Launch) (x1 : Int32) (T0 : STx) (Lk : SLk) (Sj : SSJ) (T1 : STx) (Rd : SRd) (Pg : SPg) (Pt : SPt) (Mk : SMk) (Ck : SCk) (Jd : SJd) (Ld : SLd) (Pr : SPr) (rt : Nat) {r : Int32} (h : m_Lk_octetAt x1 T0 Lk = some r) : o_Cn E l D o_cls (o_tys ca) y_Lk_octetAt cc_Lk_octetAt rm_Lk_octetAt [.ref (ad 43), .int x1] (o_cw ad ca rt Sj T0 T1 Rd Pg Pt Mk Lk Ck Jd Ld Pr) (o_cw ad ca rt Sj T0 T1 Rd Pg Pt Mk Lk Ck Jd Ld Pr) (some (.int r)) := by
  refine o_Cn_of (by decide) (Nat.le_of_ble_eq_true rfl) ?_
  intro p e s m below meth c A ls C hD hP hS hl
  have hDD : ∀ (rt : Nat) (Sj : SSJ) (T0 : STx) (T1 : STx) (Rd : SRd) (Pg : SPg) (Pt : SPt) (Mk : SMk) (Lk : SLk) (Ck : SCk) (Jd : SJd) (Ld : SLd) (Pr : SPr), va_D A (o_cw ad ca rt Sj T0 T1 Rd Pg Pt Mk Lk Ck Jd Ld Pr) := fun _ _ _ _ _ _ _ _ _ _ _ _ _ => o_D_map hD rfl
  have hl : lv_has ls 4 [(0, .ref (ad 43)), (1, .int x1)] := hl
  unfold m_Lk_octetAt at h
  have C0 := C
  obtain ⟨hx, hb, -, -, -, hown, hts, hK, -, -⟩ := C0
  refine lv_aload_n hx hb d_Lk_octetAt_0 rfl (lv_at hl 0 rfl) ?_
  refine o_get (v := .ref (ad 1)) C in_Lk hP 43 cw_43 rfl 0 (by decide) k_1_231 rfl rfl d_Lk_octetAt_1 ?_
  refine lv_iload_n hx hb d_Lk_octetAt_4 rfl (lv_at hl 1 rfl) ?_
  refine lv_aload_n hx hb d_Lk_octetAt_5 rfl (lv_at hl 0 rfl) ?_
  refine o_get (v := .int (Lk_position Lk)) C in_Lk hP 43 cw_43 rfl 4 (by decide) k_1_235 rfl rfl d_Lk_octetAt_6 ?_
  refine lv_iconst (v := (1:Int32)) hx hb d_Lk_octetAt_9 (by decide) ?_
  refine lv_iadd hx hb d_Lk_octetAt_10 ?_
  obtain ⟨q1, hq1, h⟩ := o_bd_some h
  refine o_V (st1 := [.int q1]) (w1 := (o_cw ad ca rt Sj T0 T1 Rd Pg Pt Mk Lk Ck Jd Ld Pr)) hE.1 C (c_Tx_cell_0 hE l x1 ((Lk_position Lk) + (1:Int32)) T0 Sj T1 Rd Pg Pt Mk Lk Ck Jd Ld Pr rt hq1) hP (hDD _ _ _ _ _ _ _ _ _ _ _ _ _) hS hl.1 rfl cw_1 k_5_154 k_4_117 k_4_118 k_1_2 k_4_119 hv_Tx_cell rfl rfl ⟨(Nat.le_of_ble_eq_true rfl), (Nat.le_of_ble_eq_true rfl)⟩ rfl (Nat.le_of_ble_eq_true rfl) ⟨Nat.zero_le _, Nat.zero_le _⟩ rfl d_Lk_octetAt_11 (fun H locs hP hS => ?_)
  obtain ⟨q2, hq2, h⟩ := o_bd_some h
  refine o_SN (st1 := [.int q2]) (w1 := (o_cw ad ca rt Sj T0 T1 Rd Pg Pt Mk Lk Ck Jd Ld Pr)) hE.1 C (c_SJ_hexDigit hE l q1 Sj T0 T1 Rd Pg Pt Mk Lk Ck Jd Ld Pr rt hq2) hP (hDD _ _ _ _ _ _ _ _ _ _ _ _ _) hS hl.1 (hE.2.1 _ _ _ C.2.2.2.2.2.2.2.2.2 _ nw_14) k_3_152 k_1_1 k_3_153 hs_SJ_hexDigit rfl rfl ⟨(Nat.le_of_ble_eq_true rfl), (Nat.le_of_ble_eq_true rfl)⟩ rfl (Nat.le_of_ble_eq_true rfl) ⟨Nat.zero_le _, Nat.zero_le _⟩ rfl d_Lk_octetAt_14 (fun H locs hP hS => ?_)
  refine lv_istore_n (lv' := [(2, .int q2), (0, .ref (ad 43)), (1, .int x1)]) hx hb d_Lk_octetAt_17 rfl hl (by decide) rfl (fun ls hl => ?_)
  refine lv_aload_n hx hb d_Lk_octetAt_18 rfl (lv_at hl 1 rfl) ?_
  refine o_get (v := .ref (ad 1)) C in_Lk hP 43 cw_43 rfl 0 (by decide) k_1_231 rfl rfl d_Lk_octetAt_19 ?_
  refine lv_iload_n hx hb d_Lk_octetAt_22 rfl (lv_at hl 2 rfl) ?_
  refine lv_aload_n hx hb d_Lk_octetAt_23 rfl (lv_at hl 1 rfl) ?_
  refine o_get (v := .int (Lk_position Lk)) C in_Lk hP 43 cw_43 rfl 4 (by decide) k_1_235 rfl rfl d_Lk_octetAt_24 ?_
  refine lv_iconst (v := (2:Int32)) hx hb d_Lk_octetAt_27 (by decide) ?_
  refine lv_iadd hx hb d_Lk_octetAt_28 ?_
  obtain ⟨q3, hq3, h⟩ := o_bd_some h
  refine o_V (st1 := [.int q3]) (w1 := (o_cw ad ca rt Sj T0 T1 Rd Pg Pt Mk Lk Ck Jd Ld Pr)) hE.1 C (c_Tx_cell_0 hE l x1 ((Lk_position Lk) + (2:Int32)) T0 Sj T1 Rd Pg Pt Mk Lk Ck Jd Ld Pr rt hq3) hP (hDD _ _ _ _ _ _ _ _ _ _ _ _ _) hS hl.1 rfl cw_1 k_5_154 k_4_117 k_4_118 k_1_2 k_4_119 hv_Tx_cell rfl rfl ⟨(Nat.le_of_ble_eq_true rfl), (Nat.le_of_ble_eq_true rfl)⟩ rfl (Nat.le_of_ble_eq_true rfl) ⟨Nat.zero_le _, Nat.zero_le _⟩ rfl d_Lk_octetAt_29 (fun H locs hP hS => ?_)
  obtain ⟨q4, hq4, h⟩ := o_bd_some h
  refine o_SN (st1 := [.int q4]) (w1 := (o_cw ad ca rt Sj T0 T1 Rd Pg Pt Mk Lk Ck Jd Ld Pr)) hE.1 C (c_SJ_hexDigit hE l q3 Sj T0 T1 Rd Pg Pt Mk Lk Ck Jd Ld Pr rt hq4) hP (hDD _ _ _ _ _ _ _ _ _ _ _ _ _) hS hl.1 (hE.2.1 _ _ _ C.2.2.2.2.2.2.2.2.2 _ nw_14) k_3_152 k_1_1 k_3_153 hs_SJ_hexDigit rfl rfl ⟨(Nat.le_of_ble_eq_true rfl), (Nat.le_of_ble_eq_true rfl)⟩ rfl (Nat.le_of_ble_eq_true rfl) ⟨Nat.zero_le _, Nat.zero_le _⟩ rfl d_Lk_octetAt_32 (fun H locs hP hS => ?_)
  refine lv_istore_n (lv' := [(3, .int q4), (2, .int q2), (0, .ref (ad 43)), (1, .int x1)]) hx hb d_Lk_octetAt_35 rfl hl (by decide) rfl (fun ls hl => ?_)
  refine lv_aload_n hx hb d_Lk_octetAt_36 rfl (lv_at hl 2 rfl) ?_
  refine o_get (v := .ref (ad 1)) C in_Lk hP 43 cw_43 rfl 0 (by decide) k_1_231 rfl rfl d_Lk_octetAt_37 ?_
  refine lv_iload_n hx hb d_Lk_octetAt_40 rfl (lv_at hl 3 rfl) ?_
  refine lv_aload_n hx hb d_Lk_octetAt_41 rfl (lv_at hl 2 rfl) ?_
  refine o_get (v := .int (Lk_position Lk)) C in_Lk hP 43 cw_43 rfl 4 (by decide) k_1_235 rfl rfl d_Lk_octetAt_42 ?_
  obtain ⟨q5, hq5, h⟩ := o_bd_some h
  refine o_V (st1 := [.int q5]) (w1 := (o_cw ad ca rt Sj T0 T1 Rd Pg Pt Mk Lk Ck Jd Ld Pr)) hE.1 C (c_Tx_cell_0 hE l x1 (Lk_position Lk) T0 Sj T1 Rd Pg Pt Mk Lk Ck Jd Ld Pr rt hq5) hP (hDD _ _ _ _ _ _ _ _ _ _ _ _ _) hS hl.1 rfl cw_1 k_5_154 k_4_117 k_4_118 k_1_2 k_4_119 hv_Tx_cell rfl rfl ⟨(Nat.le_of_ble_eq_true rfl), (Nat.le_of_ble_eq_true rfl)⟩ rfl (Nat.le_of_ble_eq_true rfl) ⟨Nat.zero_le _, Nat.zero_le _⟩ rfl d_Lk_octetAt_45 (fun H locs hP hS => ?_)
  refine lv_bipush (v := (37:Int32)) hx hb d_Lk_octetAt_48 (by decide) ?_
  refine lv_icmp_ne (tgt := 63) hx hb d_Lk_octetAt_50 (by decide) (fun c1 => ?_) (fun c1 => ?_)
  · replace h := o_ff c1 h
    refine lv_iconst (v := (-1:Int32)) hx hb d_Lk_octetAt_63 (by decide) ?_
    refine lv_goto (tgt := 73) hx hb d_Lk_octetAt_64 (by decide) ?_
    cases h
    exact o_ri (v := (-1:Int32)) C hP hS d_Lk_octetAt_73
  · replace h := o_tt c1 h
    refine lv_iload_n hx hb d_Lk_octetAt_53 rfl (lv_at hl 1 rfl) ?_
    refine lv_iconst (v := (-1:Int32)) hx hb d_Lk_octetAt_54 (by decide) ?_
    refine lv_icmp_eq (tgt := 63) hx hb d_Lk_octetAt_55 (by decide) (fun c2 => ?_) (fun c2 => ?_)
    · replace h := o_tt c2 h
      refine lv_iconst (v := (-1:Int32)) hx hb d_Lk_octetAt_63 (by decide) ?_
      refine lv_goto (tgt := 73) hx hb d_Lk_octetAt_64 (by decide) ?_
      cases h
      exact o_ri (v := (-1:Int32)) C hP hS d_Lk_octetAt_73
    · replace h := o_ff c2 h
      refine lv_iload_n hx hb d_Lk_octetAt_58 rfl (lv_at hl 0 rfl) ?_
      refine lv_iconst (v := (-1:Int32)) hx hb d_Lk_octetAt_59 (by decide) ?_
      refine lv_icmp_ne (tgt := 67) hx hb d_Lk_octetAt_60 (by decide) (fun c3 => ?_) (fun c3 => ?_)
      · replace h := o_ff c3 h
        refine lv_iload_n hx hb d_Lk_octetAt_67 rfl (lv_at hl 1 rfl) ?_
        refine lv_bipush (v := (16:Int32)) hx hb d_Lk_octetAt_68 (by decide) ?_
        refine lv_imul hx hb d_Lk_octetAt_70 ?_
        refine lv_iload_n hx hb d_Lk_octetAt_71 rfl (lv_at hl 0 rfl) ?_
        refine lv_iadd hx hb d_Lk_octetAt_72 ?_
        cases h
        exact o_ri (v := ((q2 * (16:Int32)) + q4)) C hP hS d_Lk_octetAt_73
      · replace h := o_tt c3 h
        refine lv_iconst (v := (-1:Int32)) hx hb d_Lk_octetAt_63 (by decide) ?_
        refine lv_goto (tgt := 73) hx hb d_Lk_octetAt_64 (by decide) ?_
        cases h
        exact o_ri (v := (-1:Int32)) C hP hS d_Lk_octetAt_73
set_option maxHeartbeats 4000000 in
set_option maxRecDepth 100000 in
theorem w_Lk_decodeOctets_b22 {E : (Nat → Prop) → State → Heap → Prop} {p : Program} {l : Launch} {e : Env} {s : State} {m : MethodId} {args : Array Value} {below : List Frame} {meth : Method} {c : Code} {D : va_G} {ad kd sd vd xd : Nat → Nat} {ca : Nat → ClassId} {A : Nat → Prop} {Q : State → Prop} (hE : o_EK E kd sd vd xd) (C : o_Cx E p s m args meth c D o_cls (o_tys ca) "SchemaJudge$Links" b_Lk_decodeOctets (some .int) 7 cc_Lk_decodeOctets A) (hDD : ∀ (rt : Nat) (Sj : SSJ) (T0 : STx) (T1 : STx) (Rd : SRd) (Pg : SPg) (Pt : SPt) (Mk : SMk) (Lk : SLk) (Ck : SCk) (Jd : SJd) (Ld : SLd) (Pr : SPr), va_D A (o_cw ad ca rt Sj T0 T1 Rd Pg Pt Mk Lk Ck Jd Ld Pr)) (n : Nat) (u22_x1 : Int32) (u22_x3 : Int32) (u22_T0 : STx) (u22_Sj : SSJ) (u22_T1 : STx) (u22_Rd : SRd) (u22_Pg : SPg) (u22_Pt : SPt) (u22_Mk : SMk) (u22_Ck : SCk) (u22_Jd : SJd) (u22_Ld : SLd) (u22_Pr : SPr) (u22_rt : Nat) (z : Int32 × Int32 × SLk) (q : Nat × Int32 × Int32 × SLk) (h : m_Lk_decodeOctets_b22 n u22_x1 u22_x3 u22_T0 z = some q) (h0 : q.1 = 0 → o_At p l e rm_Lk_decodeOctets s m args below meth c Q o_cls D A 7 22 [] (o_cw ad ca u22_rt u22_Sj u22_T0 u22_T1 u22_Rd u22_Pg u22_Pt u22_Mk q.2.2.2 u22_Ck u22_Jd u22_Ld u22_Pr) [(0, .ref (ad 43)), (1, .int u22_x1), (3, .int u22_x3), (4, .int q.2.1), (5, .int q.2.2.1)]) (h1 : q.1 ≠ 0 → (if q.1 = 1 then o_At p l e rm_Lk_decodeOctets s m args below meth c Q o_cls D A 7 53 [] (o_cw ad ca u22_rt u22_Sj u22_T0 u22_T1 u22_Rd u22_Pg u22_Pt u22_Mk q.2.2.2 u22_Ck u22_Jd u22_Ld u22_Pr) [] else o_At p l e rm_Lk_decodeOctets s m args below meth c Q o_cls D A 7 74 [] (o_cw ad ca u22_rt u22_Sj u22_T0 u22_T1 u22_Rd u22_Pg u22_Pt u22_Mk q.2.2.2 u22_Ck u22_Jd u22_Ld u22_Pr) [(3, .int u22_x3), (4, .int q.2.1)])) : o_At p l e rm_Lk_decodeOctets s m args below meth c Q o_cls D A 7 22 [] (o_cw ad ca u22_rt u22_Sj u22_T0 u22_T1 u22_Rd u22_Pg u22_Pt u22_Mk z.2.2 u22_Ck u22_Jd u22_Ld u22_Pr) [(0, .ref (ad 43)), (1, .int u22_x1), (3, .int u22_x3), (4, .int z.1), (5, .int z.2.1)] := by
  unfold m_Lk_decodeOctets_b22 at h
  intro H locs ls hP hS hl
  have C0 := C
  obtain ⟨hx, hb, -, -, -, hown, hts, hK, -, -⟩ := C0
  refine lv_iload hx hb d_Lk_decodeOctets_22 (lv_at hl 4 rfl) ?_
  refine lv_iload_n hx hb d_Lk_decodeOctets_24 rfl (lv_at hl 2 rfl) ?_
  refine lv_icmp_ge (tgt := 74) hx hb d_Lk_decodeOctets_25 (by decide) (fun c2 => ?_) (fun c2 => ?_)
  · replace h := o_tt c2 h
    cases h
    exact h1 (Nat.succ_ne_zero 1) _ _ _ hP hS (lv_sub hl [2, 3] rfl)
  · replace h := o_ff c2 h
    refine lv_aload_n hx hb d_Lk_decodeOctets_28 rfl (lv_at hl 0 rfl) ?_
    refine lv_dup hx hb d_Lk_decodeOctets_29 rfl ?_
    refine o_get (v := .int (Lk_position z.2.2)) C in_Lk hP 43 cw_43 rfl 4 (by decide) k_1_235 rfl rfl d_Lk_decodeOctets_30 ?_
    refine lv_iconst (v := (3:Int32)) hx hb d_Lk_decodeOctets_33 (by decide) ?_
    refine lv_iadd hx hb d_Lk_decodeOctets_34 ?_
    refine o_put (v := .int ((Lk_position z.2.2) + (3:Int32))) (ty := .int) (w1 := (o_cw ad ca u22_rt u22_Sj u22_T0 u22_T1 u22_Rd u22_Pg u22_Pt u22_Mk (Lk_mk (Lk_characters z.2.2) (Lk_length z.2.2) ((Lk_position z.2.2) + (3:Int32))) u22_Ck u22_Jd u22_Ld u22_Pr)) C in_Lk t_Lk t_Lk_ok n_Lk hP (hDD _ _ _ _ _ _ _ _ _ _ _ _ _) hS 43 cw_43 rfl 4 (by decide) k_1_235 rfl rfl (by decide +kernel) rfl rfl (Nat.le_of_ble_eq_true rfl) rfl d_Lk_decodeOctets_35 (fun H locs hP hS => ?_)
    refine lv_aload_n hx hb d_Lk_decodeOctets_38 rfl (lv_at hl 0 rfl) ?_
    refine lv_iload_n hx hb d_Lk_decodeOctets_39 rfl (lv_at hl 1 rfl) ?_
    obtain ⟨q3, hq3, h⟩ := o_bd_some h
    refine o_V (st1 := [.int q3]) (w1 := (o_cw ad ca u22_rt u22_Sj u22_T0 u22_T1 u22_Rd u22_Pg u22_Pt u22_Mk (Lk_mk (Lk_characters z.2.2) (Lk_length z.2.2) ((Lk_position z.2.2) + (3:Int32))) u22_Ck u22_Jd u22_Ld u22_Pr)) hE.1 C (c_Lk_octetAt hE l u22_x1 u22_T0 (Lk_mk (Lk_characters z.2.2) (Lk_length z.2.2) ((Lk_position z.2.2) + (3:Int32))) u22_Sj u22_T1 u22_Rd u22_Pg u22_Pt u22_Mk u22_Ck u22_Jd u22_Ld u22_Pr u22_rt hq3) hP (hDD _ _ _ _ _ _ _ _ _ _ _ _ _) hS hl.1 rfl cw_43 k_5_150 k_5_152 k_s_48 k_1_8 k_5_153 hv_Lk_octetAt rfl rfl ⟨(Nat.le_of_ble_eq_true rfl), (Nat.le_of_ble_eq_true rfl)⟩ rfl (Nat.le_of_ble_eq_true rfl) ⟨Nat.zero_le _, Nat.zero_le _⟩ rfl d_Lk_decodeOctets_40 (fun H locs hP hS => ?_)
    refine lv_istore (lv' := [(6, .int q3), (0, .ref (ad 43)), (1, .int u22_x1), (3, .int u22_x3), (4, .int z.1), (5, .int z.2.1)]) hx hb d_Lk_decodeOctets_43 hl (by decide) rfl (fun ls hl => ?_)
    refine lv_iload hx hb d_Lk_decodeOctets_45 (lv_at hl 0 rfl) ?_
    obtain ⟨q4, hq4, h⟩ := o_bd_some h
    refine o_SN (st1 := [.int q4]) (w1 := (o_cw ad ca u22_rt u22_Sj u22_T0 u22_T1 u22_Rd u22_Pg u22_Pt u22_Mk (Lk_mk (Lk_characters z.2.2) (Lk_length z.2.2) ((Lk_position z.2.2) + (3:Int32))) u22_Ck u22_Jd u22_Ld u22_Pr)) hE.1 C (c_SJ_utf8Follows hE l q3 u22_Sj u22_T0 u22_T1 u22_Rd u22_Pg u22_Pt u22_Mk (Lk_mk (Lk_characters z.2.2) (Lk_length z.2.2) ((Lk_position z.2.2) + (3:Int32))) u22_Ck u22_Jd u22_Ld u22_Pr u22_rt hq4) hP (hDD _ _ _ _ _ _ _ _ _ _ _ _ _) hS hl.1 (hE.2.1 _ _ _ C.2.2.2.2.2.2.2.2.2 _ nw_17) k_3_174 k_1_1 k_3_175 hs_SJ_utf8Follows rfl rfl ⟨(Nat.le_of_ble_eq_true rfl), (Nat.le_of_ble_eq_true rfl)⟩ rfl (Nat.le_of_ble_eq_true rfl) ⟨Nat.zero_le _, Nat.zero_le _⟩ rfl d_Lk_decodeOctets_47 (fun H locs hP hS => ?_)
    refine lv_if_ne (tgt := 55) hx hb d_Lk_decodeOctets_50 (by decide) (fun c3 => ?_) (fun c3 => ?_)
    · replace h := o_ff c3 h
      refine lv_iload hx hb d_Lk_decodeOctets_55 (lv_at hl 4 rfl) ?_
      refine lv_bipush (v := (6:Int32)) hx hb d_Lk_decodeOctets_57 (by decide) ?_
      refine lv_ishl hx hb d_Lk_decodeOctets_59 ?_
      refine lv_iload hx hb d_Lk_decodeOctets_60 (lv_at hl 0 rfl) ?_
      refine lv_bipush (v := (63:Int32)) hx hb d_Lk_decodeOctets_62 (by decide) ?_
      refine lv_iand hx hb d_Lk_decodeOctets_64 ?_
      refine lv_ior hx hb d_Lk_decodeOctets_65 ?_
      refine lv_topi (fun x4_66 ex4_66 => ?_)
      replace h := o_nm_at ex4_66 h
      refine lv_istore (lv' := [(4, .int x4_66), (6, .int q3), (0, .ref (ad 43)), (1, .int u22_x1), (3, .int u22_x3), (5, .int z.2.1)]) hx hb d_Lk_decodeOctets_66 hl (by decide) rfl (fun ls hl => ?_)
      obtain ⟨x5_68, ex5_68⟩ : ∃ y : Int32, y = z.2.1 + (1:Int32) := ⟨_, rfl⟩
      replace h := o_nm_at ex5_68 h
      refine lv_iinc (v := x5_68) (lv' := [(5, .int x5_68), (4, .int x4_66), (6, .int q3), (0, .ref (ad 43)), (1, .int u22_x1), (3, .int u22_x3)]) hx hb d_Lk_decodeOctets_68 hl (k := 5) rfl (by rw [ex5_68]; rfl) (by decide) rfl (fun ls hl => ?_)
      refine lv_goto (tgt := 22) hx hb d_Lk_decodeOctets_71 (by decide) ?_
      cases h
      exact h0 rfl _ _ _ hP hS (lv_sub hl [3, 4, 5, 1, 0] rfl)
    · replace h := o_tt c3 h
      cases h
      exact h1 (Nat.succ_ne_zero 0) _ _ _ hP hS (lv_sub hl [] rfl)
set_option maxHeartbeats 4000000 in
set_option maxRecDepth 100000 in
theorem c_Lk_decodeOctets {E : (Nat → Prop) → State → Heap → Prop} {D : va_G} {ad kd sd vd xd : Nat → Nat} {ca : Nat → ClassId} (hE : o_EK E kd sd vd xd) (l : Launch) (n : Nat) (x1 : Int32) (x2 : Int32) (T0 : STx) (Lk : SLk) (Sj : SSJ) (T1 : STx) (Rd : SRd) (Pg : SPg) (Pt : SPt) (Mk : SMk) (Ck : SCk) (Jd : SJd) (Ld : SLd) (Pr : SPr) (rt : Nat) {r : Int32 × SLk} (h : m_Lk_decodeOctets n x1 x2 T0 Lk = some r) : o_Cn E l D o_cls (o_tys ca) y_Lk_decodeOctets cc_Lk_decodeOctets rm_Lk_decodeOctets [.ref (ad 43), .int x1, .int x2] (o_cw ad ca rt Sj T0 T1 Rd Pg Pt Mk Lk Ck Jd Ld Pr) (o_cw ad ca rt Sj T0 T1 Rd Pg Pt Mk r.2 Ck Jd Ld Pr) (some (.int r.1)) := by
  refine o_Cn_of (by decide) (Nat.le_of_ble_eq_true rfl) ?_
  intro p e s m below meth c A ls C hD hP hS hl
  have hDD : ∀ (rt : Nat) (Sj : SSJ) (T0 : STx) (T1 : STx) (Rd : SRd) (Pg : SPg) (Pt : SPt) (Mk : SMk) (Lk : SLk) (Ck : SCk) (Jd : SJd) (Ld : SLd) (Pr : SPr), va_D A (o_cw ad ca rt Sj T0 T1 Rd Pg Pt Mk Lk Ck Jd Ld Pr) := fun _ _ _ _ _ _ _ _ _ _ _ _ _ => o_D_map hD rfl
  have hl : lv_has ls 7 [(0, .ref (ad 43)), (1, .int x1), (2, .int x2)] := hl
  unfold m_Lk_decodeOctets at h
  have C0 := C
  obtain ⟨hx, hb, -, -, -, hown, hts, hK, -, -⟩ := C0
  refine lv_iload_n hx hb d_Lk_decodeOctets_0 rfl (lv_at hl 2 rfl) ?_
  obtain ⟨q1, hq1, h⟩ := o_bd_some h
  refine o_SN (st1 := [.int q1]) (w1 := (o_cw ad ca rt Sj T0 T1 Rd Pg Pt Mk Lk Ck Jd Ld Pr)) hE.1 C (c_SJ_utf8Tail hE l x2 Sj T0 T1 Rd Pg Pt Mk Lk Ck Jd Ld Pr rt hq1) hP (hDD _ _ _ _ _ _ _ _ _ _ _ _ _) hS hl.1 (hE.2.1 _ _ _ C.2.2.2.2.2.2.2.2.2 _ nw_15) k_3_168 k_1_1 k_3_169 hs_SJ_utf8Tail rfl rfl ⟨(Nat.le_of_ble_eq_true rfl), (Nat.le_of_ble_eq_true rfl)⟩ rfl (Nat.le_of_ble_eq_true rfl) ⟨Nat.zero_le _, Nat.zero_le _⟩ rfl d_Lk_decodeOctets_1 (fun H locs hP hS => ?_)
  refine lv_istore_n (lv' := [(3, .int q1), (0, .ref (ad 43)), (1, .int x1), (2, .int x2)]) hx hb d_Lk_decodeOctets_4 rfl hl (by decide) rfl (fun ls hl => ?_)
  refine lv_iload_n hx hb d_Lk_decodeOctets_5 rfl (lv_at hl 0 rfl) ?_
  refine lv_iconst (v := (-1:Int32)) hx hb d_Lk_decodeOctets_6 (by decide) ?_
  refine lv_icmp_ne (tgt := 12) hx hb d_Lk_decodeOctets_7 (by decide) (fun c1 => ?_) (fun c1 => ?_)
  · replace h := o_ff c1 h
    refine lv_iload_n hx hb d_Lk_decodeOctets_12 rfl (lv_at hl 3 rfl) ?_
    refine lv_iload_n hx hb d_Lk_decodeOctets_13 rfl (lv_at hl 0 rfl) ?_
    obtain ⟨q2, hq2, h⟩ := o_bd_some h
    refine o_SN (st1 := [.int q2]) (w1 := (o_cw ad ca rt Sj T0 T1 Rd Pg Pt Mk Lk Ck Jd Ld Pr)) hE.1 C (c_SJ_utf8Head hE l x2 q1 Sj T0 T1 Rd Pg Pt Mk Lk Ck Jd Ld Pr rt hq2) hP (hDD _ _ _ _ _ _ _ _ _ _ _ _ _) hS hl.1 (hE.2.1 _ _ _ C.2.2.2.2.2.2.2.2.2 _ nw_16) k_3_171 k_1_1 k_3_172 hs_SJ_utf8Head rfl rfl ⟨(Nat.le_of_ble_eq_true rfl), (Nat.le_of_ble_eq_true rfl)⟩ rfl (Nat.le_of_ble_eq_true rfl) ⟨Nat.zero_le _, Nat.zero_le _⟩ rfl d_Lk_decodeOctets_14 (fun H locs hP hS => ?_)
    refine lv_istore (lv' := [(4, .int q2), (3, .int q1), (0, .ref (ad 43)), (1, .int x1), (2, .int x2)]) hx hb d_Lk_decodeOctets_17 hl (by decide) rfl (fun ls hl => ?_)
    refine lv_iconst (v := (0:Int32)) hx hb d_Lk_decodeOctets_19 (by decide) ?_
    refine lv_istore (lv' := [(5, .int (0:Int32)), (4, .int q2), (3, .int q1), (0, .ref (ad 43)), (1, .int x1), (2, .int x2)]) hx hb d_Lk_decodeOctets_20 hl (by decide) rfl (fun ls hl => ?_)
    obtain ⟨q5, hq5, h⟩ := o_bd_some h
    refine o_sim2 (AH := fun zz => o_At p l e rm_Lk_decodeOctets s m _ below meth c _ o_cls D A 7 22 [] (o_cw ad ca rt Sj T0 T1 Rd Pg Pt Mk zz.2.2 Ck Jd Ld Pr) [(0, .ref (ad 43)), (1, .int x1), (3, .int q1), (4, .int zz.1), (5, .int zz.2.1)]) (AX := fun qq => if qq.1 = 1 then o_At p l e rm_Lk_decodeOctets s m _ below meth c _ o_cls D A 7 53 [] (o_cw ad ca rt Sj T0 T1 Rd Pg Pt Mk qq.2.2.2 Ck Jd Ld Pr) [] else o_At p l e rm_Lk_decodeOctets s m _ below meth c _ o_cls D A 7 74 [] (o_cw ad ca rt Sj T0 T1 Rd Pg Pt Mk qq.2.2.2 Ck Jd Ld Pr) [(3, .int q1), (4, .int qq.2.1)]) (fun zz qq h h0 h1 => w_Lk_decodeOctets_b22 hE C hDD n x1 q1 T0 Sj T1 Rd Pg Pt Mk Ck Jd Ld Pr rt zz qq h h0 h1) n _ q5 hq5 ?_ _ _ _ hP hS (lv_sub hl [3, 4, 2, 1, 0] rfl)
    by_cases c5 : q5.1 = 1
    · replace h := o_tt c5 h
      refine o_ip c5 ?_
      intro H locs ls hP hS hl
      refine lv_iconst (v := (-1:Int32)) hx hb d_Lk_decodeOctets_53 (by decide) ?_
      cases h
      exact o_ri (v := (-1:Int32)) C hP hS d_Lk_decodeOctets_54
    replace h := o_ff c5 h
    refine o_in_ c5 ?_
    intro H locs ls hP hS hl
    refine lv_iload hx hb d_Lk_decodeOctets_74 (lv_at hl 1 rfl) ?_
    refine lv_iload_n hx hb d_Lk_decodeOctets_76 rfl (lv_at hl 0 rfl) ?_
    obtain ⟨q6, hq6, h⟩ := o_bd_some h
    refine o_SN (st1 := [.int q6]) (w1 := (o_cw ad ca rt Sj T0 T1 Rd Pg Pt Mk q5.2.2.2 Ck Jd Ld Pr)) hE.1 C (c_SJ_utf8Legal hE l q5.2.1 q1 Sj T0 T1 Rd Pg Pt Mk q5.2.2.2 Ck Jd Ld Pr rt hq6) hP (hDD _ _ _ _ _ _ _ _ _ _ _ _ _) hS hl.1 (hE.2.1 _ _ _ C.2.2.2.2.2.2.2.2.2 _ nw_18) k_3_177 k_1_1 k_3_178 hs_SJ_utf8Legal rfl rfl ⟨(Nat.le_of_ble_eq_true rfl), (Nat.le_of_ble_eq_true rfl)⟩ rfl (Nat.le_of_ble_eq_true rfl) ⟨Nat.zero_le _, Nat.zero_le _⟩ rfl d_Lk_decodeOctets_77 (fun H locs hP hS => ?_)
    refine lv_if_eq (tgt := 88) hx hb d_Lk_decodeOctets_80 (by decide) (fun c4 => ?_) (fun c4 => ?_)
    · replace h := o_tt c4 h
      refine lv_iconst (v := (-1:Int32)) hx hb d_Lk_decodeOctets_88 (by decide) ?_
      cases h
      exact o_ri (v := (-1:Int32)) C hP hS d_Lk_decodeOctets_89
    · replace h := o_ff c4 h
      refine lv_iload hx hb d_Lk_decodeOctets_83 (lv_at hl 1 rfl) ?_
      refine lv_goto (tgt := 89) hx hb d_Lk_decodeOctets_85 (by decide) ?_
      cases h
      exact o_ri C hP hS d_Lk_decodeOctets_89
  · replace h := o_tt c1 h
    refine lv_iconst (v := (-1:Int32)) hx hb d_Lk_decodeOctets_10 (by decide) ?_
    cases h
    exact o_ri (v := (-1:Int32)) C hP hS d_Lk_decodeOctets_11
set_option maxHeartbeats 4000000 in
set_option maxRecDepth 100000 in
theorem w_Lk_decode_j107 {E : (Nat → Prop) → State → Heap → Prop} {p : Program} {l : Launch} {e : Env} {s : State} {m : MethodId} {args : Array Value} {below : List Frame} {meth : Method} {c : Code} {D : va_G} {ad kd sd vd xd : Nat → Nat} {ca : Nat → ClassId} {A : Nat → Prop} {Q : State → Prop} (hE : o_EK E kd sd vd xd) (C : o_Cx E p s m args meth c D o_cls (o_tys ca) "SchemaJudge$Links" b_Lk_decode (some .boolean) 6 cc_Lk_decode A) (hDD : ∀ (rt : Nat) (Sj : SSJ) (T0 : STx) (T1 : STx) (Rd : SRd) (Pg : SPg) (Pt : SPt) (Mk : SMk) (Lk : SLk) (Ck : SCk) (Jd : SJd) (Ld : SLd) (Pr : SPr), va_D A (o_cw ad ca rt Sj T0 T1 Rd Pg Pt Mk Lk Ck Jd Ld Pr)) (n : Nat) (u21_x1 : Int32) (u21_x2 : Int32) (u21_T0 : STx) (u21_Sj : SSJ) (u21_T1 : STx) (u21_Rd : SRd) (u21_Pg : SPg) (u21_Pt : SPt) (u21_Mk : SMk) (u21_Ck : SCk) (u21_Jd : SJd) (u21_Ld : SLd) (u21_Pr : SPr) (u21_rt : Nat) (x3 : Int32) (x5 : Int32) (y1 : Int32) (y2 : Int32) (Lk : SLk) {q : Nat × Int32 × SLk} (h : m_Lk_decode_j107 n u21_x1 u21_x2 x3 x5 y1 y2 u21_T0 Lk = some q) (h0 : q.1 = 0 → o_At p l e rm_Lk_decode s m args below meth c Q o_cls D A 6 21 [] (o_cw ad ca u21_rt u21_Sj u21_T0 u21_T1 u21_Rd u21_Pg u21_Pt u21_Mk q.2.2 u21_Ck u21_Jd u21_Ld u21_Pr) [(0, .ref (ad 43)), (1, .int u21_x1), (2, .int u21_x2), (3, .int q.2.1)]) (h1 : q.1 ≠ 0 → (if q.1 = 1 then o_At p l e rm_Lk_decode s m args below meth c Q o_cls D A 6 89 [] (o_cw ad ca u21_rt u21_Sj u21_T0 u21_T1 u21_Rd u21_Pg u21_Pt u21_Mk q.2.2 u21_Ck u21_Jd u21_Ld u21_Pr) [] else o_At p l e rm_Lk_decode s m args below meth c Q o_cls D A 6 138 [] (o_cw ad ca u21_rt u21_Sj u21_T0 u21_T1 u21_Rd u21_Pg u21_Pt u21_Mk q.2.2 u21_Ck u21_Jd u21_Ld u21_Pr) [])) : o_At p l e rm_Lk_decode s m args below meth c Q o_cls D A 6 107 [.int y2, .int y1, .ref (ad 43)] (o_cw ad ca u21_rt u21_Sj u21_T0 u21_T1 u21_Rd u21_Pg u21_Pt u21_Mk Lk u21_Ck u21_Jd u21_Ld u21_Pr) [(0, .ref (ad 43)), (1, .int u21_x1), (2, .int u21_x2), (3, .int x3), (5, .int x5)] := by
  unfold m_Lk_decode_j107 at h
  intro H locs ls hP hS hl
  have C0 := C
  obtain ⟨hx, hb, -, -, -, hown, hts, hK, -, -⟩ := C0
  refine lv_iadd hx hb d_Lk_decode_107 ?_
  refine o_put (v := .int (y1 + y2)) (ty := .int) (w1 := (o_cw ad ca u21_rt u21_Sj u21_T0 u21_T1 u21_Rd u21_Pg u21_Pt u21_Mk (Lk_mk (Lk_characters Lk) (Lk_length Lk) (y1 + y2)) u21_Ck u21_Jd u21_Ld u21_Pr)) C in_Lk t_Lk t_Lk_ok n_Lk hP (hDD _ _ _ _ _ _ _ _ _ _ _ _ _) hS 43 cw_43 rfl 4 (by decide) k_1_235 rfl rfl (by decide +kernel) rfl rfl (Nat.le_of_ble_eq_true rfl) rfl d_Lk_decode_108 (fun H locs hP hS => ?_)
  refine lv_aload_n hx hb d_Lk_decode_111 rfl (lv_at hl 0 rfl) ?_
  refine o_get (v := .ref (ad 44)) C in_Lk hP 43 cw_43 rfl 2 (by decide) k_1_233 rfl rfl d_Lk_decode_112 ?_
  refine lv_aload_n hx hb d_Lk_decode_115 rfl (lv_at hl 0 rfl) ?_
  refine o_get (v := .int (Lk_length Lk)) C in_Lk hP 43 cw_43 rfl 3 (by decide) k_1_234 rfl rfl d_Lk_decode_116 ?_
  refine lv_iload hx hb d_Lk_decode_119 (lv_at hl 4 rfl) ?_
  obtain ⟨g7, h⟩ := o_gd_some h
  refine o_iast (f := (Lk_characters Lk)) (w1 := (o_cw ad ca u21_rt u21_Sj u21_T0 u21_T1 u21_Rd u21_Pg u21_Pt u21_Mk (Lk_mk (upd (Lk_characters Lk) (Lk_length Lk).toNatClampNeg x5) (Lk_length Lk) (y1 + y2)) u21_Ck u21_Jd u21_Ld u21_Pr)) C hP (hDD _ _ _ _ _ _ _ _ _ _ _ _ _) hS 44 36 cw_44 rfl g7 rfl d_Lk_decode_121 (fun H locs hP hS => ?_)
  refine lv_aload_n hx hb d_Lk_decode_122 rfl (lv_at hl 0 rfl) ?_
  refine lv_dup hx hb d_Lk_decode_123 rfl ?_
  refine o_get (v := .int (Lk_length Lk)) C in_Lk hP 43 cw_43 rfl 3 (by decide) k_1_234 rfl rfl d_Lk_decode_124 ?_
  refine lv_iconst (v := (1:Int32)) hx hb d_Lk_decode_127 (by decide) ?_
  refine lv_iadd hx hb d_Lk_decode_128 ?_
  refine o_put (v := .int ((Lk_length Lk) + (1:Int32))) (ty := .int) (w1 := (o_cw ad ca u21_rt u21_Sj u21_T0 u21_T1 u21_Rd u21_Pg u21_Pt u21_Mk (Lk_mk (upd (Lk_characters Lk) (Lk_length Lk).toNatClampNeg x5) ((Lk_length Lk) + (1:Int32)) (y1 + y2)) u21_Ck u21_Jd u21_Ld u21_Pr)) C in_Lk t_Lk t_Lk_ok n_Lk hP (hDD _ _ _ _ _ _ _ _ _ _ _ _ _) hS 43 cw_43 rfl 3 (by decide) k_1_234 rfl rfl (by decide +kernel) rfl rfl (Nat.le_of_ble_eq_true rfl) rfl d_Lk_decode_129 (fun H locs hP hS => ?_)
  obtain ⟨x3_132, ex3_132⟩ : ∃ y : Int32, y = x3 + (1:Int32) := ⟨_, rfl⟩
  replace h := o_nm_at ex3_132 h
  refine lv_iinc (v := x3_132) (lv' := [(3, .int x3_132), (0, .ref (ad 43)), (1, .int u21_x1), (2, .int u21_x2), (5, .int x5)]) hx hb d_Lk_decode_132 hl (k := 3) rfl (by rw [ex3_132]; rfl) (by decide) rfl (fun ls hl => ?_)
  refine lv_goto (tgt := 21) hx hb d_Lk_decode_135 (by decide) ?_
  cases h
  exact h0 rfl _ _ _ hP hS (lv_sub hl [1, 2, 3, 0] rfl)
set_option maxHeartbeats 4000000 in
set_option maxRecDepth 100000 in
theorem w_Lk_decode_j81 {E : (Nat → Prop) → State → Heap → Prop} {p : Program} {l : Launch} {e : Env} {s : State} {m : MethodId} {args : Array Value} {below : List Frame} {meth : Method} {c : Code} {D : va_G} {ad kd sd vd xd : Nat → Nat} {ca : Nat → ClassId} {A : Nat → Prop} {Q : State → Prop} (hE : o_EK E kd sd vd xd) (C : o_Cx E p s m args meth c D o_cls (o_tys ca) "SchemaJudge$Links" b_Lk_decode (some .boolean) 6 cc_Lk_decode A) (hDD : ∀ (rt : Nat) (Sj : SSJ) (T0 : STx) (T1 : STx) (Rd : SRd) (Pg : SPg) (Pt : SPt) (Mk : SMk) (Lk : SLk) (Ck : SCk) (Jd : SJd) (Ld : SLd) (Pr : SPr), va_D A (o_cw ad ca rt Sj T0 T1 Rd Pg Pt Mk Lk Ck Jd Ld Pr)) (n : Nat) (u21_x1 : Int32) (u21_x2 : Int32) (u21_T0 : STx) (u21_Sj : SSJ) (u21_T1 : STx) (u21_Rd : SRd) (u21_Pg : SPg) (u21_Pt : SPt) (u21_Mk : SMk) (u21_Ck : SCk) (u21_Jd : SJd) (u21_Ld : SLd) (u21_Pr : SPr) (u21_rt : Nat) (x3 : Int32) (x4 : Int32) (y0 : Int32) (Lk : SLk) {q : Nat × Int32 × SLk} (h : m_Lk_decode_j81 n u21_x1 u21_x2 x3 x4 y0 u21_T0 Lk = some q) (h0 : q.1 = 0 → o_At p l e rm_Lk_decode s m args below meth c Q o_cls D A 6 21 [] (o_cw ad ca u21_rt u21_Sj u21_T0 u21_T1 u21_Rd u21_Pg u21_Pt u21_Mk q.2.2 u21_Ck u21_Jd u21_Ld u21_Pr) [(0, .ref (ad 43)), (1, .int u21_x1), (2, .int u21_x2), (3, .int q.2.1)]) (h1 : q.1 ≠ 0 → (if q.1 = 1 then o_At p l e rm_Lk_decode s m args below meth c Q o_cls D A 6 89 [] (o_cw ad ca u21_rt u21_Sj u21_T0 u21_T1 u21_Rd u21_Pg u21_Pt u21_Mk q.2.2 u21_Ck u21_Jd u21_Ld u21_Pr) [] else o_At p l e rm_Lk_decode s m args below meth c Q o_cls D A 6 138 [] (o_cw ad ca u21_rt u21_Sj u21_T0 u21_T1 u21_Rd u21_Pg u21_Pt u21_Mk q.2.2 u21_Ck u21_Jd u21_Ld u21_Pr) [])) : o_At p l e rm_Lk_decode s m args below meth c Q o_cls D A 6 81 [.int y0] (o_cw ad ca u21_rt u21_Sj u21_T0 u21_T1 u21_Rd u21_Pg u21_Pt u21_Mk Lk u21_Ck u21_Jd u21_Ld u21_Pr) [(0, .ref (ad 43)), (1, .int u21_x1), (2, .int u21_x2), (3, .int x3), (4, .int x4)] := by
  unfold m_Lk_decode_j81 at h
  intro H locs ls hP hS hl
  have C0 := C
  obtain ⟨hx, hb, -, -, -, hown, hts, hK, -, -⟩ := C0
  refine lv_istore (lv' := [(5, .int y0), (0, .ref (ad 43)), (1, .int u21_x1), (2, .int u21_x2), (3, .int x3), (4, .int x4)]) hx hb d_Lk_decode_81 hl (by decide) rfl (fun ls hl => ?_)
  refine lv_iload hx hb d_Lk_decode_83 (lv_at hl 0 rfl) ?_
  refine lv_iconst (v := (-1:Int32)) hx hb d_Lk_decode_85 (by decide) ?_
  refine lv_icmp_ne (tgt := 91) hx hb d_Lk_decode_86 (by decide) (fun c5 => ?_) (fun c5 => ?_)
  · replace h := o_ff c5 h
    refine lv_aload_n hx hb d_Lk_decode_91 rfl (lv_at hl 1 rfl) ?_
    refine lv_dup hx hb d_Lk_decode_92 rfl ?_
    refine o_get (v := .int (Lk_position Lk)) C in_Lk hP 43 cw_43 rfl 4 (by decide) k_1_235 rfl rfl d_Lk_decode_93 ?_
    refine lv_iload hx hb d_Lk_decode_96 (lv_at hl 5 rfl) ?_
    refine lv_iconst (v := (-1:Int32)) hx hb d_Lk_decode_98 (by decide) ?_
    refine lv_icmp_ne (tgt := 106) hx hb d_Lk_decode_99 (by decide) (fun c6 => ?_) (fun c6 => ?_)
    · replace h := o_ff c6 h
      refine lv_iconst (v := (3:Int32)) hx hb d_Lk_decode_106 (by decide) ?_
      exact w_Lk_decode_j107 hE C hDD n u21_x1 u21_x2 u21_T0 u21_Sj u21_T1 u21_Rd u21_Pg u21_Pt u21_Mk u21_Ck u21_Jd u21_Ld u21_Pr u21_rt x3 y0 (Lk_position Lk) (3:Int32) Lk h h0 h1 _ _ _ hP hS (lv_sub hl [1, 2, 3, 4, 0] rfl)
    · replace h := o_tt c6 h
      refine lv_iconst (v := (1:Int32)) hx hb d_Lk_decode_102 (by decide) ?_
      refine lv_goto (tgt := 107) hx hb d_Lk_decode_103 (by decide) ?_
      exact w_Lk_decode_j107 hE C hDD n u21_x1 u21_x2 u21_T0 u21_Sj u21_T1 u21_Rd u21_Pg u21_Pt u21_Mk u21_Ck u21_Jd u21_Ld u21_Pr u21_rt x3 y0 (Lk_position Lk) (1:Int32) Lk h h0 h1 _ _ _ hP hS (lv_sub hl [1, 2, 3, 4, 0] rfl)
  · replace h := o_tt c5 h
    cases h
    exact h1 (Nat.succ_ne_zero 0) _ _ _ hP hS (lv_sub hl [] rfl)
set_option maxHeartbeats 4000000 in
set_option maxRecDepth 100000 in
theorem w_Lk_decode_b21 {E : (Nat → Prop) → State → Heap → Prop} {p : Program} {l : Launch} {e : Env} {s : State} {m : MethodId} {args : Array Value} {below : List Frame} {meth : Method} {c : Code} {D : va_G} {ad kd sd vd xd : Nat → Nat} {ca : Nat → ClassId} {A : Nat → Prop} {Q : State → Prop} (hE : o_EK E kd sd vd xd) (C : o_Cx E p s m args meth c D o_cls (o_tys ca) "SchemaJudge$Links" b_Lk_decode (some .boolean) 6 cc_Lk_decode A) (hDD : ∀ (rt : Nat) (Sj : SSJ) (T0 : STx) (T1 : STx) (Rd : SRd) (Pg : SPg) (Pt : SPt) (Mk : SMk) (Lk : SLk) (Ck : SCk) (Jd : SJd) (Ld : SLd) (Pr : SPr), va_D A (o_cw ad ca rt Sj T0 T1 Rd Pg Pt Mk Lk Ck Jd Ld Pr)) (n : Nat) (u21_x1 : Int32) (u21_x2 : Int32) (u21_T0 : STx) (u21_Sj : SSJ) (u21_T1 : STx) (u21_Rd : SRd) (u21_Pg : SPg) (u21_Pt : SPt) (u21_Mk : SMk) (u21_Ck : SCk) (u21_Jd : SJd) (u21_Ld : SLd) (u21_Pr : SPr) (u21_rt : Nat) (z : Int32 × SLk) (q : Nat × Int32 × SLk) (h : m_Lk_decode_b21 n u21_x1 u21_x2 u21_T0 z = some q) (h0 : q.1 = 0 → o_At p l e rm_Lk_decode s m args below meth c Q o_cls D A 6 21 [] (o_cw ad ca u21_rt u21_Sj u21_T0 u21_T1 u21_Rd u21_Pg u21_Pt u21_Mk q.2.2 u21_Ck u21_Jd u21_Ld u21_Pr) [(0, .ref (ad 43)), (1, .int u21_x1), (2, .int u21_x2), (3, .int q.2.1)]) (h1 : q.1 ≠ 0 → (if q.1 = 1 then o_At p l e rm_Lk_decode s m args below meth c Q o_cls D A 6 89 [] (o_cw ad ca u21_rt u21_Sj u21_T0 u21_T1 u21_Rd u21_Pg u21_Pt u21_Mk q.2.2 u21_Ck u21_Jd u21_Ld u21_Pr) [] else o_At p l e rm_Lk_decode s m args below meth c Q o_cls D A 6 138 [] (o_cw ad ca u21_rt u21_Sj u21_T0 u21_T1 u21_Rd u21_Pg u21_Pt u21_Mk q.2.2 u21_Ck u21_Jd u21_Ld u21_Pr) [])) : o_At p l e rm_Lk_decode s m args below meth c Q o_cls D A 6 21 [] (o_cw ad ca u21_rt u21_Sj u21_T0 u21_T1 u21_Rd u21_Pg u21_Pt u21_Mk z.2 u21_Ck u21_Jd u21_Ld u21_Pr) [(0, .ref (ad 43)), (1, .int u21_x1), (2, .int u21_x2), (3, .int z.1)] := by
  unfold m_Lk_decode_b21 at h
  intro H locs ls hP hS hl
  have C0 := C
  obtain ⟨hx, hb, -, -, -, hown, hts, hK, -, -⟩ := C0
  refine lv_iload_n hx hb d_Lk_decode_21 rfl (lv_at hl 3 rfl) ?_
  refine lv_iload_n hx hb d_Lk_decode_22 rfl (lv_at hl 2 rfl) ?_
  refine lv_icmp_ge (tgt := 138) hx hb d_Lk_decode_23 (by decide) (fun c1 => ?_) (fun c1 => ?_)
  · replace h := o_tt c1 h
    cases h
    exact h1 (Nat.succ_ne_zero 1) _ _ _ hP hS (lv_sub hl [] rfl)
  · replace h := o_ff c1 h
    refine lv_aload_n hx hb d_Lk_decode_26 rfl (lv_at hl 0 rfl) ?_
    refine o_get (v := .int (Lk_position z.2)) C in_Lk hP 43 cw_43 rfl 4 (by decide) k_1_235 rfl rfl d_Lk_decode_27 ?_
    refine lv_iload_n hx hb d_Lk_decode_30 rfl (lv_at hl 2 rfl) ?_
    refine lv_icmp_ge (tgt := 138) hx hb d_Lk_decode_31 (by decide) (fun c2 => ?_) (fun c2 => ?_)
    · replace h := o_tt c2 h
      cases h
      exact h1 (Nat.succ_ne_zero 1) _ _ _ hP hS (lv_sub hl [] rfl)
    · replace h := o_ff c2 h
      refine lv_aload_n hx hb d_Lk_decode_34 rfl (lv_at hl 0 rfl) ?_
      refine o_get (v := .int (Lk_length z.2)) C in_Lk hP 43 cw_43 rfl 3 (by decide) k_1_234 rfl rfl d_Lk_decode_35 ?_
      refine lv_aload_n hx hb d_Lk_decode_38 rfl (lv_at hl 0 rfl) ?_
      refine o_get (v := .ref (ad 44)) C in_Lk hP 43 cw_43 rfl 2 (by decide) k_1_233 rfl rfl d_Lk_decode_39 ?_
      refine va_alen (v := (4000:Int32)) hx hb hK hP 44 36 cw_44 rfl rfl d_Lk_decode_42 ?_
      refine lv_icmp_ge (tgt := 138) hx hb d_Lk_decode_43 (by decide) (fun c3 => ?_) (fun c3 => ?_)
      · replace h := o_tt c3 h
        cases h
        exact h1 (Nat.succ_ne_zero 1) _ _ _ hP hS (lv_sub hl [] rfl)
      · replace h := o_ff c3 h
        refine lv_aload_n hx hb d_Lk_decode_46 rfl (lv_at hl 0 rfl) ?_
        refine lv_iload_n hx hb d_Lk_decode_47 rfl (lv_at hl 1 rfl) ?_
        obtain ⟨q2, hq2, h⟩ := o_bd_some h
        refine o_V (st1 := [.int q2]) (w1 := (o_cw ad ca u21_rt u21_Sj u21_T0 u21_T1 u21_Rd u21_Pg u21_Pt u21_Mk z.2 u21_Ck u21_Jd u21_Ld u21_Pr)) hE.1 C (c_Lk_octetAt hE l u21_x1 u21_T0 z.2 u21_Sj u21_T1 u21_Rd u21_Pg u21_Pt u21_Mk u21_Ck u21_Jd u21_Ld u21_Pr u21_rt hq2) hP (hDD _ _ _ _ _ _ _ _ _ _ _ _ _) hS hl.1 rfl cw_43 k_5_150 k_5_152 k_s_48 k_1_8 k_5_153 hv_Lk_octetAt rfl rfl ⟨(Nat.le_of_ble_eq_true rfl), (Nat.le_of_ble_eq_true rfl)⟩ rfl (Nat.le_of_ble_eq_true rfl) ⟨Nat.zero_le _, Nat.zero_le _⟩ rfl d_Lk_decode_48 (fun H locs hP hS => ?_)
        refine lv_istore (lv' := [(4, .int q2), (0, .ref (ad 43)), (1, .int u21_x1), (2, .int u21_x2), (3, .int z.1)]) hx hb d_Lk_decode_51 hl (by decide) rfl (fun ls hl => ?_)
        refine lv_iload hx hb d_Lk_decode_53 (lv_at hl 0 rfl) ?_
        refine lv_iconst (v := (-1:Int32)) hx hb d_Lk_decode_55 (by decide) ?_
        refine lv_icmp_ne (tgt := 74) hx hb d_Lk_decode_56 (by decide) (fun c4 => ?_) (fun c4 => ?_)
        · replace h := o_ff c4 h
          refine lv_aload_n hx hb d_Lk_decode_74 rfl (lv_at hl 1 rfl) ?_
          refine lv_iload_n hx hb d_Lk_decode_75 rfl (lv_at hl 2 rfl) ?_
          refine lv_iload hx hb d_Lk_decode_76 (lv_at hl 0 rfl) ?_
          obtain ⟨q3, hq3, h⟩ := o_bd_some h
          refine o_V (st1 := [.int q3.1]) (w1 := (o_cw ad ca u21_rt u21_Sj u21_T0 u21_T1 u21_Rd u21_Pg u21_Pt u21_Mk q3.2 u21_Ck u21_Jd u21_Ld u21_Pr)) hE.1 C (c_Lk_decodeOctets hE l n u21_x1 q2 u21_T0 z.2 u21_Sj u21_T1 u21_Rd u21_Pg u21_Pt u21_Mk u21_Ck u21_Jd u21_Ld u21_Pr u21_rt hq3) hP (hDD _ _ _ _ _ _ _ _ _ _ _ _ _) hS hl.1 rfl cw_43 k_5_156 k_5_158 k_s_49 k_1_8 k_5_159 hv_Lk_decodeOctets rfl rfl ⟨(Nat.le_of_ble_eq_true rfl), (Nat.le_of_ble_eq_true rfl)⟩ rfl (Nat.le_of_ble_eq_true rfl) ⟨Nat.zero_le _, Nat.zero_le _⟩ rfl d_Lk_decode_78 (fun H locs hP hS => ?_)
          exact w_Lk_decode_j81 hE C hDD n u21_x1 u21_x2 u21_T0 u21_Sj u21_T1 u21_Rd u21_Pg u21_Pt u21_Mk u21_Ck u21_Jd u21_Ld u21_Pr u21_rt z.1 q2 q3.1 q3.2 h h0 h1 _ _ _ hP hS (lv_sub hl [1, 2, 3, 4, 0] rfl)
        · replace h := o_tt c4 h
          refine lv_aload_n hx hb d_Lk_decode_59 rfl (lv_at hl 1 rfl) ?_
          refine o_get (v := .ref (ad 1)) C in_Lk hP 43 cw_43 rfl 0 (by decide) k_1_231 rfl rfl d_Lk_decode_60 ?_
          refine lv_iload_n hx hb d_Lk_decode_63 rfl (lv_at hl 2 rfl) ?_
          refine lv_aload_n hx hb d_Lk_decode_64 rfl (lv_at hl 1 rfl) ?_
          refine o_get (v := .int (Lk_position z.2)) C in_Lk hP 43 cw_43 rfl 4 (by decide) k_1_235 rfl rfl d_Lk_decode_65 ?_
          obtain ⟨q4, hq4, h⟩ := o_bd_some h
          refine o_V (st1 := [.int q4]) (w1 := (o_cw ad ca u21_rt u21_Sj u21_T0 u21_T1 u21_Rd u21_Pg u21_Pt u21_Mk z.2 u21_Ck u21_Jd u21_Ld u21_Pr)) hE.1 C (c_Tx_cell_0 hE l u21_x1 (Lk_position z.2) u21_T0 u21_Sj u21_T1 u21_Rd u21_Pg u21_Pt u21_Mk z.2 u21_Ck u21_Jd u21_Ld u21_Pr u21_rt hq4) hP (hDD _ _ _ _ _ _ _ _ _ _ _ _ _) hS hl.1 rfl cw_1 k_5_154 k_4_117 k_4_118 k_1_2 k_4_119 hv_Tx_cell rfl rfl ⟨(Nat.le_of_ble_eq_true rfl), (Nat.le_of_ble_eq_true rfl)⟩ rfl (Nat.le_of_ble_eq_true rfl) ⟨Nat.zero_le _, Nat.zero_le _⟩ rfl d_Lk_decode_68 (fun H locs hP hS => ?_)
          refine lv_goto (tgt := 81) hx hb d_Lk_decode_71 (by decide) ?_
          exact w_Lk_decode_j81 hE C hDD n u21_x1 u21_x2 u21_T0 u21_Sj u21_T1 u21_Rd u21_Pg u21_Pt u21_Mk u21_Ck u21_Jd u21_Ld u21_Pr u21_rt z.1 q2 q4 z.2 h h0 h1 _ _ _ hP hS (lv_sub hl [1, 2, 3, 4, 0] rfl)
set_option maxHeartbeats 4000000 in
set_option maxRecDepth 100000 in
theorem c_Lk_decode {E : (Nat → Prop) → State → Heap → Prop} {D : va_G} {ad kd sd vd xd : Nat → Nat} {ca : Nat → ClassId} (hE : o_EK E kd sd vd xd) (l : Launch) (n : Nat) (x1 : Int32) (T0 : STx) (Lk : SLk) (Sj : SSJ) (T1 : STx) (Rd : SRd) (Pg : SPg) (Pt : SPt) (Mk : SMk) (Ck : SCk) (Jd : SJd) (Ld : SLd) (Pr : SPr) (rt : Nat) {r : Int32 × SLk} (h : m_Lk_decode n x1 T0 Lk = some r) : o_Cn E l D o_cls (o_tys ca) y_Lk_decode cc_Lk_decode rm_Lk_decode [.ref (ad 43), .int x1] (o_cw ad ca rt Sj T0 T1 Rd Pg Pt Mk Lk Ck Jd Ld Pr) (o_cw ad ca rt Sj T0 T1 Rd Pg Pt Mk r.2 Ck Jd Ld Pr) (some (.int r.1)) := by
  refine o_Cn_of (by decide) (Nat.le_of_ble_eq_true rfl) ?_
  intro p e s m below meth c A ls C hD hP hS hl
  have hDD : ∀ (rt : Nat) (Sj : SSJ) (T0 : STx) (T1 : STx) (Rd : SRd) (Pg : SPg) (Pt : SPt) (Mk : SMk) (Lk : SLk) (Ck : SCk) (Jd : SJd) (Ld : SLd) (Pr : SPr), va_D A (o_cw ad ca rt Sj T0 T1 Rd Pg Pt Mk Lk Ck Jd Ld Pr) := fun _ _ _ _ _ _ _ _ _ _ _ _ _ => o_D_map hD rfl
  have hl : lv_has ls 6 [(0, .ref (ad 43)), (1, .int x1)] := hl
  unfold m_Lk_decode at h
  have C0 := C
  obtain ⟨hx, hb, -, -, -, hown, hts, hK, -, -⟩ := C0
  refine lv_aload_n hx hb d_Lk_decode_0 rfl (lv_at hl 0 rfl) ?_
  refine o_get (v := .ref (ad 1)) C in_Lk hP 43 cw_43 rfl 0 (by decide) k_1_231 rfl rfl d_Lk_decode_1 ?_
  refine lv_iload_n hx hb d_Lk_decode_4 rfl (lv_at hl 1 rfl) ?_
  obtain ⟨q1, hq1, h⟩ := o_bd_some h
  refine o_V (st1 := [.int q1]) (w1 := (o_cw ad ca rt Sj T0 T1 Rd Pg Pt Mk Lk Ck Jd Ld Pr)) hE.1 C (c_Tx_size_0 hE l x1 T0 Sj T1 Rd Pg Pt Mk Lk Ck Jd Ld Pr rt hq1) hP (hDD _ _ _ _ _ _ _ _ _ _ _ _ _) hS hl.1 rfl cw_1 k_5_149 k_3_215 k_3_216 k_1_2 k_3_217 hv_Tx_size rfl rfl ⟨(Nat.le_of_ble_eq_true rfl), (Nat.le_of_ble_eq_true rfl)⟩ rfl (Nat.le_of_ble_eq_true rfl) ⟨Nat.zero_le _, Nat.zero_le _⟩ rfl d_Lk_decode_5 (fun H locs hP hS => ?_)
  refine lv_istore_n (lv' := [(2, .int q1), (0, .ref (ad 43)), (1, .int x1)]) hx hb d_Lk_decode_8 rfl hl (by decide) rfl (fun ls hl => ?_)
  refine lv_aload_n hx hb d_Lk_decode_9 rfl (lv_at hl 1 rfl) ?_
  refine lv_iconst (v := (0:Int32)) hx hb d_Lk_decode_10 (by decide) ?_
  refine o_put (v := .int (0:Int32)) (ty := .int) (w1 := (o_cw ad ca rt Sj T0 T1 Rd Pg Pt Mk (Lk_mk (Lk_characters Lk) (0:Int32) (Lk_position Lk)) Ck Jd Ld Pr)) C in_Lk t_Lk t_Lk_ok n_Lk hP (hDD _ _ _ _ _ _ _ _ _ _ _ _ _) hS 43 cw_43 rfl 3 (by decide) k_1_234 rfl rfl (by decide +kernel) rfl rfl (Nat.le_of_ble_eq_true rfl) rfl d_Lk_decode_11 (fun H locs hP hS => ?_)
  refine lv_aload_n hx hb d_Lk_decode_14 rfl (lv_at hl 1 rfl) ?_
  refine lv_iconst (v := (0:Int32)) hx hb d_Lk_decode_15 (by decide) ?_
  refine o_put (v := .int (0:Int32)) (ty := .int) (w1 := (o_cw ad ca rt Sj T0 T1 Rd Pg Pt Mk (Lk_mk (Lk_characters Lk) (0:Int32) (0:Int32)) Ck Jd Ld Pr)) C in_Lk t_Lk t_Lk_ok n_Lk hP (hDD _ _ _ _ _ _ _ _ _ _ _ _ _) hS 43 cw_43 rfl 4 (by decide) k_1_235 rfl rfl (by decide +kernel) rfl rfl (Nat.le_of_ble_eq_true rfl) rfl d_Lk_decode_16 (fun H locs hP hS => ?_)
  refine lv_iconst (v := (0:Int32)) hx hb d_Lk_decode_19 (by decide) ?_
  refine lv_istore_n (lv' := [(3, .int (0:Int32)), (2, .int q1), (0, .ref (ad 43)), (1, .int x1)]) hx hb d_Lk_decode_20 rfl hl (by decide) rfl (fun ls hl => ?_)
  obtain ⟨q5, hq5, h⟩ := o_bd_some h
  refine o_sim2 (AH := fun zz => o_At p l e rm_Lk_decode s m _ below meth c _ o_cls D A 6 21 [] (o_cw ad ca rt Sj T0 T1 Rd Pg Pt Mk zz.2 Ck Jd Ld Pr) [(0, .ref (ad 43)), (1, .int x1), (2, .int q1), (3, .int zz.1)]) (AX := fun qq => if qq.1 = 1 then o_At p l e rm_Lk_decode s m _ below meth c _ o_cls D A 6 89 [] (o_cw ad ca rt Sj T0 T1 Rd Pg Pt Mk qq.2.2 Ck Jd Ld Pr) [] else o_At p l e rm_Lk_decode s m _ below meth c _ o_cls D A 6 138 [] (o_cw ad ca rt Sj T0 T1 Rd Pg Pt Mk qq.2.2 Ck Jd Ld Pr) []) (fun zz qq h h0 h1 => w_Lk_decode_b21 hE C hDD n x1 q1 T0 Sj T1 Rd Pg Pt Mk Ck Jd Ld Pr rt zz qq h h0 h1) n _ q5 hq5 ?_ _ _ _ hP hS (lv_sub hl [2, 3, 1, 0] rfl)
  by_cases c8 : q5.1 = 1
  · replace h := o_tt c8 h
    refine o_ip c8 ?_
    intro H locs ls hP hS hl
    refine lv_iconst (v := (0:Int32)) hx hb d_Lk_decode_89 (by decide) ?_
    cases h
    exact o_rz (v := (0:Int32)) C o_nar0 hP hS d_Lk_decode_90
  replace h := o_ff c8 h
  refine o_in_ c8 ?_
  intro H locs ls hP hS hl
  refine lv_iconst (v := (1:Int32)) hx hb d_Lk_decode_138 (by decide) ?_
  cases h
  exact o_rz (v := (1:Int32)) C o_nar1 hP hS d_Lk_decode_139
