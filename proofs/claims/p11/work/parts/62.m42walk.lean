set_option maxHeartbeats 4000000 in
set_option maxRecDepth 100000 in
theorem c_SJ_feed {E : (Nat → Prop) → State → Heap → Prop} {D : va_G} {ad kd sd vd xd : Nat → Nat} {ca : Nat → ClassId} (hE : o_EK E kd sd vd xd) (hT : o_ET E) (l : Launch) (hfl : l.flags = pinnedFlags ++ [noTraceFlag]) (x1 : Int32) (x2 : Int32) (x3 : Int32) (x4 : Int32) (x5 : Int32) (Rd : SRd) (Sj : SSJ) (T0 : STx) (T1 : STx) (Pg : SPg) (Pt : SPt) (Mk : SMk) (Lk : SLk) (Ck : SCk) (Jd : SJd) (Ld : SLd) (Pr : SPr) (rt : Nat) {r : Nat × Int32 × SRd} (h : m_SJ_feed x1 x2 x3 x4 x5 Rd = some r) : o_Ct E l D o_cls (o_tys ca) y_SJ_feed cc_SJ_feed rm_SJ_feed [.ref (ad 0), .int x1, .int x2, .int x3, .int x4, .int x5] (o_cw ad ca rt Sj T0 T1 Rd Pg Pt Mk Lk Ck Jd Ld Pr) (o_cw ad ca rt Sj T0 T1 r.2.2 Pg Pt Mk Lk Ck Jd Ld Pr) r.1 (some (.int r.2.1)) := by
  refine o_Ct_of hfl (by decide) (Nat.le_of_ble_eq_true rfl) ?_
  intro p e s m below meth c A ls htr hne C hD hP hS hl
  have hDD : ∀ (rt : Nat) (Sj : SSJ) (T0 : STx) (T1 : STx) (Rd : SRd) (Pg : SPg) (Pt : SPt) (Mk : SMk) (Lk : SLk) (Ck : SCk) (Jd : SJd) (Ld : SLd) (Pr : SPr), va_D A (o_cw ad ca rt Sj T0 T1 Rd Pg Pt Mk Lk Ck Jd Ld Pr) := fun _ _ _ _ _ _ _ _ _ _ _ _ _ => o_D_map hD rfl
  have hl : lv_has ls 6 [(0, .ref (ad 0)), (1, .int x1), (2, .int x2), (3, .int x3), (4, .int x4), (5, .int x5)] := hl
  unfold m_SJ_feed at h
  have C0 := C
  obtain ⟨hx, hb, -, -, -, hown, hts, hK, -, -⟩ := C0
  refine lv_aload_n hx hb d_SJ_feed_0 rfl (lv_at hl 0 rfl) ?_
  refine o_get (v := .ref (ad 23)) C in_SJ hP 0 cw_0 rfl 2 (by decide) k_2_113 rfl rfl d_SJ_feed_1 ?_
  obtain ⟨q1, hq1, h⟩ := o_bd_some h
  refine o_V (st1 := [.int q1]) (w1 := (o_cw ad ca rt Sj T0 T1 Rd Pg Pt Mk Lk Ck Jd Ld Pr)) hE.1 C (c_Rd_hasRoom hE l Rd Sj T0 T1 Pg Pt Mk Lk Ck Jd Ld Pr rt hq1) hP (hDD _ _ _ _ _ _ _ _ _ _ _ _ _) hS hl.1 rfl cw_23 k_2_168 k_2_169 k_2_170 k_1_3 k_2_171 hv_Rd_hasRoom rfl rfl ⟨(Nat.le_of_ble_eq_true rfl), (Nat.le_of_ble_eq_true rfl)⟩ rfl (Nat.le_of_ble_eq_true rfl) ⟨Nat.zero_le _, Nat.zero_le _⟩ rfl d_SJ_feed_4 (fun H locs hP hS => ?_)
  refine lv_if_ne (tgt := 20) hx hb d_SJ_feed_7 (by decide) (fun c1 => ?_) (fun c1 => ?_)
  · replace h := o_ff c1 h
    refine lv_aload_n hx hb d_SJ_feed_20 rfl (lv_at hl 0 rfl) ?_
    refine o_get (v := .ref (ad 23)) C in_SJ hP 0 cw_0 rfl 2 (by decide) k_2_113 rfl rfl d_SJ_feed_21 ?_
    refine lv_iload_n hx hb d_SJ_feed_24 rfl (lv_at hl 1 rfl) ?_
    obtain ⟨q2, hq2, h⟩ := o_bd_some h
    refine o_V (st1 := []) (w1 := (o_cw ad ca rt Sj T0 T1 q2 Pg Pt Mk Lk Ck Jd Ld Pr)) hE.1 C (c_Rd_addWord hE l x1 Rd Sj T0 T1 Pg Pt Mk Lk Ck Jd Ld Pr rt hq2) hP (hDD _ _ _ _ _ _ _ _ _ _ _ _ _) hS hl.1 rfl cw_23 k_3_1 k_3_2 k_3_3 k_1_3 k_3_4 hv_Rd_addWord rfl rfl ⟨(Nat.le_of_ble_eq_true rfl), (Nat.le_of_ble_eq_true rfl)⟩ rfl (Nat.le_of_ble_eq_true rfl) ⟨Nat.zero_le _, Nat.zero_le _⟩ rfl d_SJ_feed_25 (fun H locs hP hS => ?_)
    refine lv_aload_n hx hb d_SJ_feed_28 rfl (lv_at hl 0 rfl) ?_
    refine o_get (v := .ref (ad 23)) C in_SJ hP 0 cw_0 rfl 2 (by decide) k_2_113 rfl rfl d_SJ_feed_29 ?_
    refine lv_iload_n hx hb d_SJ_feed_32 rfl (lv_at hl 2 rfl) ?_
    obtain ⟨q3, hq3, h⟩ := o_bd_some h
    refine o_V (st1 := []) (w1 := (o_cw ad ca rt Sj T0 T1 q3 Pg Pt Mk Lk Ck Jd Ld Pr)) hE.1 C (c_Rd_addWord hE l x2 q2 Sj T0 T1 Pg Pt Mk Lk Ck Jd Ld Pr rt hq3) hP (hDD _ _ _ _ _ _ _ _ _ _ _ _ _) hS hl.1 rfl cw_23 k_3_1 k_3_2 k_3_3 k_1_3 k_3_4 hv_Rd_addWord rfl rfl ⟨(Nat.le_of_ble_eq_true rfl), (Nat.le_of_ble_eq_true rfl)⟩ rfl (Nat.le_of_ble_eq_true rfl) ⟨Nat.zero_le _, Nat.zero_le _⟩ rfl d_SJ_feed_33 (fun H locs hP hS => ?_)
    refine lv_aload_n hx hb d_SJ_feed_36 rfl (lv_at hl 0 rfl) ?_
    refine o_get (v := .ref (ad 23)) C in_SJ hP 0 cw_0 rfl 2 (by decide) k_2_113 rfl rfl d_SJ_feed_37 ?_
    refine lv_iload_n hx hb d_SJ_feed_40 rfl (lv_at hl 3 rfl) ?_
    obtain ⟨q4, hq4, h⟩ := o_bd_some h
    refine o_V (st1 := []) (w1 := (o_cw ad ca rt Sj T0 T1 q4 Pg Pt Mk Lk Ck Jd Ld Pr)) hE.1 C (c_Rd_addWord hE l x3 q3 Sj T0 T1 Pg Pt Mk Lk Ck Jd Ld Pr rt hq4) hP (hDD _ _ _ _ _ _ _ _ _ _ _ _ _) hS hl.1 rfl cw_23 k_3_1 k_3_2 k_3_3 k_1_3 k_3_4 hv_Rd_addWord rfl rfl ⟨(Nat.le_of_ble_eq_true rfl), (Nat.le_of_ble_eq_true rfl)⟩ rfl (Nat.le_of_ble_eq_true rfl) ⟨Nat.zero_le _, Nat.zero_le _⟩ rfl d_SJ_feed_41 (fun H locs hP hS => ?_)
    refine lv_aload_n hx hb d_SJ_feed_44 rfl (lv_at hl 0 rfl) ?_
    refine o_get (v := .ref (ad 23)) C in_SJ hP 0 cw_0 rfl 2 (by decide) k_2_113 rfl rfl d_SJ_feed_45 ?_
    refine lv_iload hx hb d_SJ_feed_48 (lv_at hl 4 rfl) ?_
    obtain ⟨q5, hq5, h⟩ := o_bd_some h
    refine o_V (st1 := []) (w1 := (o_cw ad ca rt Sj T0 T1 q5 Pg Pt Mk Lk Ck Jd Ld Pr)) hE.1 C (c_Rd_addWord hE l x4 q4 Sj T0 T1 Pg Pt Mk Lk Ck Jd Ld Pr rt hq5) hP (hDD _ _ _ _ _ _ _ _ _ _ _ _ _) hS hl.1 rfl cw_23 k_3_1 k_3_2 k_3_3 k_1_3 k_3_4 hv_Rd_addWord rfl rfl ⟨(Nat.le_of_ble_eq_true rfl), (Nat.le_of_ble_eq_true rfl)⟩ rfl (Nat.le_of_ble_eq_true rfl) ⟨Nat.zero_le _, Nat.zero_le _⟩ rfl d_SJ_feed_50 (fun H locs hP hS => ?_)
    refine lv_aload_n hx hb d_SJ_feed_53 rfl (lv_at hl 0 rfl) ?_
    refine o_get (v := .ref (ad 23)) C in_SJ hP 0 cw_0 rfl 2 (by decide) k_2_113 rfl rfl d_SJ_feed_54 ?_
    refine lv_iload hx hb d_SJ_feed_57 (lv_at hl 5 rfl) ?_
    obtain ⟨q6, hq6, h⟩ := o_bd_some h
    refine o_V (st1 := []) (w1 := (o_cw ad ca rt Sj T0 T1 q6 Pg Pt Mk Lk Ck Jd Ld Pr)) hE.1 C (c_Rd_addWord hE l x5 q5 Sj T0 T1 Pg Pt Mk Lk Ck Jd Ld Pr rt hq6) hP (hDD _ _ _ _ _ _ _ _ _ _ _ _ _) hS hl.1 rfl cw_23 k_3_1 k_3_2 k_3_3 k_1_3 k_3_4 hv_Rd_addWord rfl rfl ⟨(Nat.le_of_ble_eq_true rfl), (Nat.le_of_ble_eq_true rfl)⟩ rfl (Nat.le_of_ble_eq_true rfl) ⟨Nat.zero_le _, Nat.zero_le _⟩ rfl d_SJ_feed_59 (fun H locs hP hS => ?_)
    refine lv_aload_n hx hb d_SJ_feed_62 rfl (lv_at hl 0 rfl) ?_
    refine o_get (v := .ref (ad 23)) C in_SJ hP 0 cw_0 rfl 2 (by decide) k_2_113 rfl rfl d_SJ_feed_63 ?_
    obtain ⟨q7, hq7, h⟩ := o_bd_some h
    refine o_V (st1 := [.int q7]) (w1 := (o_cw ad ca rt Sj T0 T1 q6 Pg Pt Mk Lk Ck Jd Ld Pr)) hE.1 C (c_Rd_octets hE l q6 Sj T0 T1 Pg Pt Mk Lk Ck Jd Ld Pr rt hq7) hP (hDD _ _ _ _ _ _ _ _ _ _ _ _ _) hS hl.1 rfl cw_23 k_3_5 k_3_6 k_3_7 k_1_3 k_3_8 hv_Rd_octets rfl rfl ⟨(Nat.le_of_ble_eq_true rfl), (Nat.le_of_ble_eq_true rfl)⟩ rfl (Nat.le_of_ble_eq_true rfl) ⟨Nat.zero_le _, Nat.zero_le _⟩ rfl d_SJ_feed_66 (fun H locs hP hS => ?_)
    cases h
    exact o_ret0 (o_ri C hP hS d_SJ_feed_69)
  · replace h := o_tt c1 h
    cases h
    exact o_thr (tx := "more than 8,200 octets") (msg := sd 0) hE.1 hT htr hne C (by decide +kernel) fit_n at_JI k_2_172 k_2_173 k_1_17 (fun A U H h9 => hE.2.2.2.2.2.1 A U H h9 ("SchemaJudge", 75, "more than 8,200 octets", 0) (List.mem_of_getElem? (i := 0) rfl)) hP hS hl.1 (show o_exn 1 = _ from rfl) (show (1 : Nat) ≠ 0 by decide) (Nat.le_of_ble_eq_true rfl) (Nat.le_of_ble_eq_true rfl) (Nat.le_of_ble_eq_true rfl) (Nat.le_of_ble_eq_true rfl) d_SJ_feed_10 d_SJ_feed_13 d_SJ_feed_14 d_SJ_feed_16 d_SJ_feed_19
set_option maxHeartbeats 4000000 in
set_option maxRecDepth 100000 in
theorem w_Rd_read_j63_1 {E : (Nat → Prop) → State → Heap → Prop} {p : Program} {l : Launch} {e : Env} {s : State} {m : MethodId} {args : Array Value} {below : List Frame} {meth : Method} {c : Code} {D : va_G} {ad kd sd vd xd : Nat → Nat} {ca : Nat → ClassId} {A : Nat → Prop} (hE : o_EK E kd sd vd xd) (C : o_Cx E p s m args meth c D o_cls (o_tys ca) "SchemaJudge$Reader" b_Rd_read (some .int) 4 cc_Rd_read A) (hDD : ∀ (rt : Nat) (Sj : SSJ) (T0 : STx) (T1 : STx) (Rd : SRd) (Pg : SPg) (Pt : SPt) (Mk : SMk) (Lk : SLk) (Ck : SCk) (Jd : SJd) (Ld : SLd) (Pr : SPr), va_D A (o_cw ad ca rt Sj T0 T1 Rd Pg Pt Mk Lk Ck Jd Ld Pr)) (n : Nat)  (a1 : STx) (Rd : SRd) (Sj : SSJ) (T0 : STx) (Pg : SPg) (Pt : SPt) (Mk : SMk) (Lk : SLk) (Ck : SCk) (Jd : SJd) (Ld : SLd) (Pr : SPr) (rt : Nat) {r : Int32 × STx × SRd} (h : m_Rd_read_j63 n a1 Rd = some r) : o_At p l e rm_Rd_read s m args below meth c (MQ below (o_Qx D o_cls (some (.int r.1)) (o_cw ad ca 12 Sj T0 r.2.1 r.2.2 Pg Pt Mk Lk Ck Jd Ld Pr) A) args s 0 0 A) o_cls D A 4 63 [] (o_cw ad ca 12 Sj T0 a1 Rd Pg Pt Mk Lk Ck Jd Ld Pr) [(0, .ref (ad 23))] := by
  unfold m_Rd_read_j63 at h
  intro H locs ls hP hS hl
  have C0 := C
  obtain ⟨hx, hb, -, -, -, hown, hts, hK, -, -⟩ := C0
  refine lv_aload_n hx hb d_Rd_read_63 rfl (lv_at hl 0 rfl) ?_
  refine o_get (v := .int (Rd_wrongPlace Rd)) C in_Rd hP 23 cw_23 rfl 5 (by decide) k_1_99 rfl rfl d_Rd_read_64 ?_
  refine lv_iconst (v := (-1:Int32)) hx hb d_Rd_read_67 (by decide) ?_
  refine lv_icmp_eq (tgt := 78) hx hb d_Rd_read_68 (by decide) (fun c2 => ?_) (fun c2 => ?_)
  · replace h := o_tt c2 h
    refine lv_aload_n hx hb d_Rd_read_78 rfl (lv_at hl 0 rfl) ?_
    refine lv_iconst (v := (0:Int32)) hx hb d_Rd_read_79 (by decide) ?_
    refine o_put (v := .int (0:Int32)) (ty := .int) (w1 := (o_cw ad ca 12 Sj T0 a1 (Rd_mk (Rd_words Rd) (0:Int32) (Rd_position Rd) (Rd_limit Rd) (Rd_wrongPlace Rd)) Pg Pt Mk Lk Ck Jd Ld Pr)) C in_Rd t_Rd t_Rd_ok n_Rd hP (hDD _ _ _ _ _ _ _ _ _ _ _ _ _) hS 23 cw_23 rfl 1 (by decide) k_1_95 rfl rfl (by decide +kernel) rfl rfl (Nat.le_of_ble_eq_true rfl) rfl d_Rd_read_80 (fun H locs hP hS => ?_)
    refine lv_aload_n hx hb d_Rd_read_83 rfl (lv_at hl 0 rfl) ?_
    refine o_get (v := .int (Rd_wrongPlace Rd)) C in_Rd hP 23 cw_23 rfl 5 (by decide) k_1_99 rfl rfl d_Rd_read_84 ?_
    cases h
    exact o_ri (v := (Rd_wrongPlace Rd)) C hP hS d_Rd_read_87
  · replace h := o_ff c2 h
    refine lv_aload_n hx hb d_Rd_read_71 rfl (lv_at hl 0 rfl) ?_
    refine o_get (v := .ref (ad 12)) C in_Rd hP 23 cw_23 rfl 2 (by decide) k_1_96 rfl rfl d_Rd_read_72 ?_
    obtain ⟨q3, hq3, h⟩ := o_bd_some h
    refine o_V (st1 := []) (w1 := (o_cw ad ca 12 Sj T0 q3 Rd Pg Pt Mk Lk Ck Jd Ld Pr)) hE.1 C (c_Tx_clear_1 hE l a1 Sj T0 Rd Pg Pt Mk Lk Ck Jd Ld Pr 12 hq3) hP (hDD _ _ _ _ _ _ _ _ _ _ _ _ _) hS hl.1 rfl cw_12 k_3_26 k_3_27 k_3_28 k_1_2 k_3_29 hv_Tx_clear rfl rfl ⟨(Nat.le_of_ble_eq_true rfl), (Nat.le_of_ble_eq_true rfl)⟩ rfl (Nat.le_of_ble_eq_true rfl) ⟨Nat.zero_le _, Nat.zero_le _⟩ rfl d_Rd_read_75 (fun H locs hP hS => ?_)
    refine lv_aload_n hx hb d_Rd_read_78 rfl (lv_at hl 0 rfl) ?_
    refine lv_iconst (v := (0:Int32)) hx hb d_Rd_read_79 (by decide) ?_
    refine o_put (v := .int (0:Int32)) (ty := .int) (w1 := (o_cw ad ca 12 Sj T0 q3 (Rd_mk (Rd_words Rd) (0:Int32) (Rd_position Rd) (Rd_limit Rd) (Rd_wrongPlace Rd)) Pg Pt Mk Lk Ck Jd Ld Pr)) C in_Rd t_Rd t_Rd_ok n_Rd hP (hDD _ _ _ _ _ _ _ _ _ _ _ _ _) hS 23 cw_23 rfl 1 (by decide) k_1_95 rfl rfl (by decide +kernel) rfl rfl (Nat.le_of_ble_eq_true rfl) rfl d_Rd_read_80 (fun H locs hP hS => ?_)
    refine lv_aload_n hx hb d_Rd_read_83 rfl (lv_at hl 0 rfl) ?_
    refine o_get (v := .int (Rd_wrongPlace Rd)) C in_Rd hP 23 cw_23 rfl 5 (by decide) k_1_99 rfl rfl d_Rd_read_84 ?_
    cases h
    exact o_ri (v := (Rd_wrongPlace Rd)) C hP hS d_Rd_read_87
set_option maxHeartbeats 4000000 in
set_option maxRecDepth 100000 in
theorem c_Rd_read_1 {E : (Nat → Prop) → State → Heap → Prop} {D : va_G} {ad kd sd vd xd : Nat → Nat} {ca : Nat → ClassId} (hE : o_EK E kd sd vd xd) (l : Launch) (n : Nat) (x2 : Int32) (a1 : STx) (Rd : SRd) (Sj : SSJ) (T0 : STx) (Pg : SPg) (Pt : SPt) (Mk : SMk) (Lk : SLk) (Ck : SCk) (Jd : SJd) (Ld : SLd) (Pr : SPr) (rt : Nat) {r : Int32 × STx × SRd} (h : m_Rd_read n x2 a1 Rd = some r) : o_Cn E l D o_cls (o_tys ca) y_Rd_read cc_Rd_read rm_Rd_read [.ref (ad 23), .ref (ad 12), .int x2] (o_cw ad ca rt Sj T0 a1 Rd Pg Pt Mk Lk Ck Jd Ld Pr) (o_cw ad ca 12 Sj T0 r.2.1 r.2.2 Pg Pt Mk Lk Ck Jd Ld Pr) (some (.int r.1)) := by
  refine o_Cn_of (by decide) (Nat.le_of_ble_eq_true rfl) ?_
  intro p e s m below meth c A ls C hD hP hS hl
  have hDD : ∀ (rt : Nat) (Sj : SSJ) (T0 : STx) (T1 : STx) (Rd : SRd) (Pg : SPg) (Pt : SPt) (Mk : SMk) (Lk : SLk) (Ck : SCk) (Jd : SJd) (Ld : SLd) (Pr : SPr), va_D A (o_cw ad ca rt Sj T0 T1 Rd Pg Pt Mk Lk Ck Jd Ld Pr) := fun _ _ _ _ _ _ _ _ _ _ _ _ _ => o_D_map hD rfl
  have hl : lv_has ls 4 [(0, .ref (ad 23)), (1, .ref (ad 12)), (2, .int x2)] := hl
  unfold m_Rd_read at h
  have C0 := C
  obtain ⟨hx, hb, -, -, -, hown, hts, hK, -, -⟩ := C0
  refine lv_aload_n hx hb d_Rd_read_0 rfl (lv_at hl 0 rfl) ?_
  refine lv_aload_n hx hb d_Rd_read_1 rfl (lv_at hl 1 rfl) ?_
  refine o_put (v := .ref (ad 12)) (ty := (.object "SchemaJudge$Text")) (w1 := (o_cw ad ca 12 Sj T0 a1 Rd Pg Pt Mk Lk Ck Jd Ld Pr)) C in_Rd t_Rd t_Rd_ok n_Rd hP (hDD _ _ _ _ _ _ _ _ _ _ _ _ _) hS 23 cw_23 rfl 2 (by decide) k_1_96 rfl rfl (by decide +kernel) rfl rfl (Nat.le_of_ble_eq_true rfl) rfl d_Rd_read_2 (fun H locs hP hS => ?_)
  refine lv_aload_n hx hb d_Rd_read_5 rfl (lv_at hl 0 rfl) ?_
  refine o_get (v := .ref (ad 12)) C in_Rd hP 23 cw_23 rfl 2 (by decide) k_1_96 rfl rfl d_Rd_read_6 ?_
  obtain ⟨q1, hq1, h⟩ := o_bd_some h
  refine o_V (st1 := []) (w1 := (o_cw ad ca 12 Sj T0 q1 Rd Pg Pt Mk Lk Ck Jd Ld Pr)) hE.1 C (c_Tx_clear_1 hE l a1 Sj T0 Rd Pg Pt Mk Lk Ck Jd Ld Pr 12 hq1) hP (hDD _ _ _ _ _ _ _ _ _ _ _ _ _) hS hl.1 rfl cw_12 k_3_26 k_3_27 k_3_28 k_1_2 k_3_29 hv_Tx_clear rfl rfl ⟨(Nat.le_of_ble_eq_true rfl), (Nat.le_of_ble_eq_true rfl)⟩ rfl (Nat.le_of_ble_eq_true rfl) ⟨Nat.zero_le _, Nat.zero_le _⟩ rfl d_Rd_read_9 (fun H locs hP hS => ?_)
  refine lv_aload_n hx hb d_Rd_read_12 rfl (lv_at hl 0 rfl) ?_
  refine lv_iconst (v := (0:Int32)) hx hb d_Rd_read_13 (by decide) ?_
  refine o_put (v := .int (0:Int32)) (ty := .int) (w1 := (o_cw ad ca 12 Sj T0 q1 (Rd_mk (Rd_words Rd) (Rd_wordCount Rd) (0:Int32) (Rd_limit Rd) (Rd_wrongPlace Rd)) Pg Pt Mk Lk Ck Jd Ld Pr)) C in_Rd t_Rd t_Rd_ok n_Rd hP (hDD _ _ _ _ _ _ _ _ _ _ _ _ _) hS 23 cw_23 rfl 3 (by decide) k_1_97 rfl rfl (by decide +kernel) rfl rfl (Nat.le_of_ble_eq_true rfl) rfl d_Rd_read_14 (fun H locs hP hS => ?_)
  refine lv_aload_n hx hb d_Rd_read_17 rfl (lv_at hl 0 rfl) ?_
  refine lv_iload_n hx hb d_Rd_read_18 rfl (lv_at hl 2 rfl) ?_
  refine o_put (v := .int x2) (ty := .int) (w1 := (o_cw ad ca 12 Sj T0 q1 (Rd_mk (Rd_words Rd) (Rd_wordCount Rd) (0:Int32) x2 (Rd_wrongPlace Rd)) Pg Pt Mk Lk Ck Jd Ld Pr)) C in_Rd t_Rd t_Rd_ok n_Rd hP (hDD _ _ _ _ _ _ _ _ _ _ _ _ _) hS 23 cw_23 rfl 4 (by decide) k_1_98 rfl rfl (by decide +kernel) rfl rfl (Nat.le_of_ble_eq_true rfl) rfl d_Rd_read_19 (fun H locs hP hS => ?_)
  refine lv_aload_n hx hb d_Rd_read_22 rfl (lv_at hl 0 rfl) ?_
  refine lv_iconst (v := (-1:Int32)) hx hb d_Rd_read_23 (by decide) ?_
  refine o_put (v := .int (-1:Int32)) (ty := .int) (w1 := (o_cw ad ca 12 Sj T0 q1 (Rd_mk (Rd_words Rd) (Rd_wordCount Rd) (0:Int32) x2 (-1:Int32)) Pg Pt Mk Lk Ck Jd Ld Pr)) C in_Rd t_Rd t_Rd_ok n_Rd hP (hDD _ _ _ _ _ _ _ _ _ _ _ _ _) hS 23 cw_23 rfl 5 (by decide) k_1_99 rfl rfl (by decide +kernel) rfl rfl (Nat.le_of_ble_eq_true rfl) rfl d_Rd_read_24 (fun H locs hP hS => ?_)
  refine lv_aload_n hx hb d_Rd_read_27 rfl (lv_at hl 0 rfl) ?_
  refine lv_iconst (v := (-1:Int32)) hx hb d_Rd_read_28 (by decide) ?_
  refine lv_iconst (v := (0:Int32)) hx hb d_Rd_read_29 (by decide) ?_
  refine lv_iconst (v := (1:Int32)) hx hb d_Rd_read_30 (by decide) ?_
  obtain ⟨q2, hq2, h⟩ := o_bd_some h
  refine o_V (st1 := [.int q2.1]) (w1 := (o_cw ad ca 12 Sj T0 q2.2.1 q2.2.2 Pg Pt Mk Lk Ck Jd Ld Pr)) hE.1 C (c_Rd_readValue_1 hE l n 43 (-1:Int32) (0:Int32) (1:Int32) q1 (Rd_mk (Rd_words Rd) (Rd_wordCount Rd) (0:Int32) x2 (-1:Int32)) Sj T0 Pg Pt Mk Lk Ck Jd Ld Pr hq2) hP (hDD _ _ _ _ _ _ _ _ _ _ _ _ _) hS hl.1 rfl cw_23 k_3_30 k_3_32 k_s_1 k_1_3 k_3_33 hv_Rd_readValue rfl rfl ⟨(Nat.le_of_ble_eq_true rfl), (Nat.le_of_ble_eq_true rfl)⟩ rfl (Nat.le_of_ble_eq_true rfl) ⟨Nat.zero_le _, Nat.zero_le _⟩ rfl d_Rd_read_31 (fun H locs hP hS => ?_)
  refine lv_istore_n (lv' := [(3, .int q2.1), (0, .ref (ad 23)), (1, .ref (ad 12)), (2, .int x2)]) hx hb d_Rd_read_34 rfl hl (by decide) rfl (fun ls hl => ?_)
  refine lv_iload_n hx hb d_Rd_read_35 rfl (lv_at hl 0 rfl) ?_
  refine lv_if_eq (tgt := 63) hx hb d_Rd_read_36 (by decide) (fun c1 => ?_) (fun c1 => ?_)
  · replace h := o_tt c1 h
    exact w_Rd_read_j63_1 hE C hDD n q2.2.1 q2.2.2 Sj T0 Pg Pt Mk Lk Ck Jd Ld Pr 12 h _ _ _ hP hS (lv_sub hl [1] rfl)
  · replace h := o_ff c1 h
    refine lv_aload_n hx hb d_Rd_read_39 rfl (lv_at hl 1 rfl) ?_
    obtain ⟨q4, hq4, h⟩ := o_bd_some h
    refine o_V (st1 := []) (w1 := (o_cw ad ca 12 Sj T0 q2.2.1 q4 Pg Pt Mk Lk Ck Jd Ld Pr)) hE.1 C (c_Rd_skipBlanks hE l n q2.2.2 Sj T0 q2.2.1 Pg Pt Mk Lk Ck Jd Ld Pr 12 hq4) hP (hDD _ _ _ _ _ _ _ _ _ _ _ _ _) hS hl.1 rfl cw_23 k_3_34 k_3_36 k_s_2 k_1_3 k_3_37 hv_Rd_skipBlanks rfl rfl ⟨(Nat.le_of_ble_eq_true rfl), (Nat.le_of_ble_eq_true rfl)⟩ rfl (Nat.le_of_ble_eq_true rfl) ⟨Nat.zero_le _, Nat.zero_le _⟩ rfl d_Rd_read_40 (fun H locs hP hS => ?_)
    refine lv_aload_n hx hb d_Rd_read_43 rfl (lv_at hl 1 rfl) ?_
    refine o_get (v := .int (Rd_position q4)) C in_Rd hP 23 cw_23 rfl 3 (by decide) k_1_97 rfl rfl d_Rd_read_44 ?_
    refine lv_aload_n hx hb d_Rd_read_47 rfl (lv_at hl 1 rfl) ?_
    refine o_get (v := .int (Rd_limit q4)) C in_Rd hP 23 cw_23 rfl 4 (by decide) k_1_98 rfl rfl d_Rd_read_48 ?_
    refine lv_icmp_ge (tgt := 63) hx hb d_Rd_read_51 (by decide) (fun c3 => ?_) (fun c3 => ?_)
    · replace h := o_tt c3 h
      exact w_Rd_read_j63_1 hE C hDD n q2.2.1 q4 Sj T0 Pg Pt Mk Lk Ck Jd Ld Pr 12 h _ _ _ hP hS (lv_sub hl [1] rfl)
    · replace h := o_ff c3 h
      refine lv_aload_n hx hb d_Rd_read_54 rfl (lv_at hl 1 rfl) ?_
      refine lv_aload_n hx hb d_Rd_read_55 rfl (lv_at hl 1 rfl) ?_
      refine o_get (v := .int (Rd_position q4)) C in_Rd hP 23 cw_23 rfl 3 (by decide) k_1_97 rfl rfl d_Rd_read_56 ?_
      obtain ⟨q5, hq5, h⟩ := o_bd_some h
      refine o_V (st1 := [.int q5.1]) (w1 := (o_cw ad ca 12 Sj T0 q2.2.1 q5.2 Pg Pt Mk Lk Ck Jd Ld Pr)) hE.1 C (c_Rd_refuse hE l (Rd_position q4) q4 Sj T0 q2.2.1 Pg Pt Mk Lk Ck Jd Ld Pr 12 hq5) hP (hDD _ _ _ _ _ _ _ _ _ _ _ _ _) hS hl.1 rfl cw_23 k_3_48 k_3_50 k_s_4 k_1_3 k_3_51 hv_Rd_refuse rfl rfl ⟨(Nat.le_of_ble_eq_true rfl), (Nat.le_of_ble_eq_true rfl)⟩ rfl (Nat.le_of_ble_eq_true rfl) ⟨Nat.zero_le _, Nat.zero_le _⟩ rfl d_Rd_read_59 (fun H locs hP hS => ?_)
      refine lv_pop hx hb d_Rd_read_62 rfl ?_
      exact w_Rd_read_j63_1 hE C hDD n q2.2.1 q5.2 Sj T0 Pg Pt Mk Lk Ck Jd Ld Pr 12 h _ _ _ hP hS (lv_sub hl [1] rfl)
set_option maxHeartbeats 4000000 in
set_option maxRecDepth 100000 in
theorem w_Rd_read_j63_0 {E : (Nat → Prop) → State → Heap → Prop} {p : Program} {l : Launch} {e : Env} {s : State} {m : MethodId} {args : Array Value} {below : List Frame} {meth : Method} {c : Code} {D : va_G} {ad kd sd vd xd : Nat → Nat} {ca : Nat → ClassId} {A : Nat → Prop} (hE : o_EK E kd sd vd xd) (C : o_Cx E p s m args meth c D o_cls (o_tys ca) "SchemaJudge$Reader" b_Rd_read (some .int) 4 cc_Rd_read A) (hDD : ∀ (rt : Nat) (Sj : SSJ) (T0 : STx) (T1 : STx) (Rd : SRd) (Pg : SPg) (Pt : SPt) (Mk : SMk) (Lk : SLk) (Ck : SCk) (Jd : SJd) (Ld : SLd) (Pr : SPr), va_D A (o_cw ad ca rt Sj T0 T1 Rd Pg Pt Mk Lk Ck Jd Ld Pr)) (n : Nat)  (a1 : STx) (Rd : SRd) (Sj : SSJ) (T1 : STx) (Pg : SPg) (Pt : SPt) (Mk : SMk) (Lk : SLk) (Ck : SCk) (Jd : SJd) (Ld : SLd) (Pr : SPr) (rt : Nat) {r : Int32 × STx × SRd} (h : m_Rd_read_j63 n a1 Rd = some r) : o_At p l e rm_Rd_read s m args below meth c (MQ below (o_Qx D o_cls (some (.int r.1)) (o_cw ad ca 1 Sj r.2.1 T1 r.2.2 Pg Pt Mk Lk Ck Jd Ld Pr) A) args s 0 0 A) o_cls D A 4 63 [] (o_cw ad ca 1 Sj a1 T1 Rd Pg Pt Mk Lk Ck Jd Ld Pr) [(0, .ref (ad 23))] := by
  unfold m_Rd_read_j63 at h
  intro H locs ls hP hS hl
  have C0 := C
  obtain ⟨hx, hb, -, -, -, hown, hts, hK, -, -⟩ := C0
  refine lv_aload_n hx hb d_Rd_read_63 rfl (lv_at hl 0 rfl) ?_
  refine o_get (v := .int (Rd_wrongPlace Rd)) C in_Rd hP 23 cw_23 rfl 5 (by decide) k_1_99 rfl rfl d_Rd_read_64 ?_
  refine lv_iconst (v := (-1:Int32)) hx hb d_Rd_read_67 (by decide) ?_
  refine lv_icmp_eq (tgt := 78) hx hb d_Rd_read_68 (by decide) (fun c2 => ?_) (fun c2 => ?_)
  · replace h := o_tt c2 h
    refine lv_aload_n hx hb d_Rd_read_78 rfl (lv_at hl 0 rfl) ?_
    refine lv_iconst (v := (0:Int32)) hx hb d_Rd_read_79 (by decide) ?_
    refine o_put (v := .int (0:Int32)) (ty := .int) (w1 := (o_cw ad ca 1 Sj a1 T1 (Rd_mk (Rd_words Rd) (0:Int32) (Rd_position Rd) (Rd_limit Rd) (Rd_wrongPlace Rd)) Pg Pt Mk Lk Ck Jd Ld Pr)) C in_Rd t_Rd t_Rd_ok n_Rd hP (hDD _ _ _ _ _ _ _ _ _ _ _ _ _) hS 23 cw_23 rfl 1 (by decide) k_1_95 rfl rfl (by decide +kernel) rfl rfl (Nat.le_of_ble_eq_true rfl) rfl d_Rd_read_80 (fun H locs hP hS => ?_)
    refine lv_aload_n hx hb d_Rd_read_83 rfl (lv_at hl 0 rfl) ?_
    refine o_get (v := .int (Rd_wrongPlace Rd)) C in_Rd hP 23 cw_23 rfl 5 (by decide) k_1_99 rfl rfl d_Rd_read_84 ?_
    cases h
    exact o_ri (v := (Rd_wrongPlace Rd)) C hP hS d_Rd_read_87
  · replace h := o_ff c2 h
    refine lv_aload_n hx hb d_Rd_read_71 rfl (lv_at hl 0 rfl) ?_
    refine o_get (v := .ref (ad 1)) C in_Rd hP 23 cw_23 rfl 2 (by decide) k_1_96 rfl rfl d_Rd_read_72 ?_
    obtain ⟨q3, hq3, h⟩ := o_bd_some h
    refine o_V (st1 := []) (w1 := (o_cw ad ca 1 Sj q3 T1 Rd Pg Pt Mk Lk Ck Jd Ld Pr)) hE.1 C (c_Tx_clear_0 hE l a1 Sj T1 Rd Pg Pt Mk Lk Ck Jd Ld Pr 1 hq3) hP (hDD _ _ _ _ _ _ _ _ _ _ _ _ _) hS hl.1 rfl cw_1 k_3_26 k_3_27 k_3_28 k_1_2 k_3_29 hv_Tx_clear rfl rfl ⟨(Nat.le_of_ble_eq_true rfl), (Nat.le_of_ble_eq_true rfl)⟩ rfl (Nat.le_of_ble_eq_true rfl) ⟨Nat.zero_le _, Nat.zero_le _⟩ rfl d_Rd_read_75 (fun H locs hP hS => ?_)
    refine lv_aload_n hx hb d_Rd_read_78 rfl (lv_at hl 0 rfl) ?_
    refine lv_iconst (v := (0:Int32)) hx hb d_Rd_read_79 (by decide) ?_
    refine o_put (v := .int (0:Int32)) (ty := .int) (w1 := (o_cw ad ca 1 Sj q3 T1 (Rd_mk (Rd_words Rd) (0:Int32) (Rd_position Rd) (Rd_limit Rd) (Rd_wrongPlace Rd)) Pg Pt Mk Lk Ck Jd Ld Pr)) C in_Rd t_Rd t_Rd_ok n_Rd hP (hDD _ _ _ _ _ _ _ _ _ _ _ _ _) hS 23 cw_23 rfl 1 (by decide) k_1_95 rfl rfl (by decide +kernel) rfl rfl (Nat.le_of_ble_eq_true rfl) rfl d_Rd_read_80 (fun H locs hP hS => ?_)
    refine lv_aload_n hx hb d_Rd_read_83 rfl (lv_at hl 0 rfl) ?_
    refine o_get (v := .int (Rd_wrongPlace Rd)) C in_Rd hP 23 cw_23 rfl 5 (by decide) k_1_99 rfl rfl d_Rd_read_84 ?_
    cases h
    exact o_ri (v := (Rd_wrongPlace Rd)) C hP hS d_Rd_read_87
set_option maxHeartbeats 4000000 in
set_option maxRecDepth 100000 in
theorem c_Rd_read_0 {E : (Nat → Prop) → State → Heap → Prop} {D : va_G} {ad kd sd vd xd : Nat → Nat} {ca : Nat → ClassId} (hE : o_EK E kd sd vd xd) (l : Launch) (n : Nat) (x2 : Int32) (a1 : STx) (Rd : SRd) (Sj : SSJ) (T1 : STx) (Pg : SPg) (Pt : SPt) (Mk : SMk) (Lk : SLk) (Ck : SCk) (Jd : SJd) (Ld : SLd) (Pr : SPr) (rt : Nat) {r : Int32 × STx × SRd} (h : m_Rd_read n x2 a1 Rd = some r) : o_Cn E l D o_cls (o_tys ca) y_Rd_read cc_Rd_read rm_Rd_read [.ref (ad 23), .ref (ad 1), .int x2] (o_cw ad ca rt Sj a1 T1 Rd Pg Pt Mk Lk Ck Jd Ld Pr) (o_cw ad ca 1 Sj r.2.1 T1 r.2.2 Pg Pt Mk Lk Ck Jd Ld Pr) (some (.int r.1)) := by
  refine o_Cn_of (by decide) (Nat.le_of_ble_eq_true rfl) ?_
  intro p e s m below meth c A ls C hD hP hS hl
  have hDD : ∀ (rt : Nat) (Sj : SSJ) (T0 : STx) (T1 : STx) (Rd : SRd) (Pg : SPg) (Pt : SPt) (Mk : SMk) (Lk : SLk) (Ck : SCk) (Jd : SJd) (Ld : SLd) (Pr : SPr), va_D A (o_cw ad ca rt Sj T0 T1 Rd Pg Pt Mk Lk Ck Jd Ld Pr) := fun _ _ _ _ _ _ _ _ _ _ _ _ _ => o_D_map hD rfl
  have hl : lv_has ls 4 [(0, .ref (ad 23)), (1, .ref (ad 1)), (2, .int x2)] := hl
  unfold m_Rd_read at h
  have C0 := C
  obtain ⟨hx, hb, -, -, -, hown, hts, hK, -, -⟩ := C0
  refine lv_aload_n hx hb d_Rd_read_0 rfl (lv_at hl 0 rfl) ?_
  refine lv_aload_n hx hb d_Rd_read_1 rfl (lv_at hl 1 rfl) ?_
  refine o_put (v := .ref (ad 1)) (ty := (.object "SchemaJudge$Text")) (w1 := (o_cw ad ca 1 Sj a1 T1 Rd Pg Pt Mk Lk Ck Jd Ld Pr)) C in_Rd t_Rd t_Rd_ok n_Rd hP (hDD _ _ _ _ _ _ _ _ _ _ _ _ _) hS 23 cw_23 rfl 2 (by decide) k_1_96 rfl rfl (by decide +kernel) rfl rfl (Nat.le_of_ble_eq_true rfl) rfl d_Rd_read_2 (fun H locs hP hS => ?_)
  refine lv_aload_n hx hb d_Rd_read_5 rfl (lv_at hl 0 rfl) ?_
  refine o_get (v := .ref (ad 1)) C in_Rd hP 23 cw_23 rfl 2 (by decide) k_1_96 rfl rfl d_Rd_read_6 ?_
  obtain ⟨q1, hq1, h⟩ := o_bd_some h
  refine o_V (st1 := []) (w1 := (o_cw ad ca 1 Sj q1 T1 Rd Pg Pt Mk Lk Ck Jd Ld Pr)) hE.1 C (c_Tx_clear_0 hE l a1 Sj T1 Rd Pg Pt Mk Lk Ck Jd Ld Pr 1 hq1) hP (hDD _ _ _ _ _ _ _ _ _ _ _ _ _) hS hl.1 rfl cw_1 k_3_26 k_3_27 k_3_28 k_1_2 k_3_29 hv_Tx_clear rfl rfl ⟨(Nat.le_of_ble_eq_true rfl), (Nat.le_of_ble_eq_true rfl)⟩ rfl (Nat.le_of_ble_eq_true rfl) ⟨Nat.zero_le _, Nat.zero_le _⟩ rfl d_Rd_read_9 (fun H locs hP hS => ?_)
  refine lv_aload_n hx hb d_Rd_read_12 rfl (lv_at hl 0 rfl) ?_
  refine lv_iconst (v := (0:Int32)) hx hb d_Rd_read_13 (by decide) ?_
  refine o_put (v := .int (0:Int32)) (ty := .int) (w1 := (o_cw ad ca 1 Sj q1 T1 (Rd_mk (Rd_words Rd) (Rd_wordCount Rd) (0:Int32) (Rd_limit Rd) (Rd_wrongPlace Rd)) Pg Pt Mk Lk Ck Jd Ld Pr)) C in_Rd t_Rd t_Rd_ok n_Rd hP (hDD _ _ _ _ _ _ _ _ _ _ _ _ _) hS 23 cw_23 rfl 3 (by decide) k_1_97 rfl rfl (by decide +kernel) rfl rfl (Nat.le_of_ble_eq_true rfl) rfl d_Rd_read_14 (fun H locs hP hS => ?_)
  refine lv_aload_n hx hb d_Rd_read_17 rfl (lv_at hl 0 rfl) ?_
  refine lv_iload_n hx hb d_Rd_read_18 rfl (lv_at hl 2 rfl) ?_
  refine o_put (v := .int x2) (ty := .int) (w1 := (o_cw ad ca 1 Sj q1 T1 (Rd_mk (Rd_words Rd) (Rd_wordCount Rd) (0:Int32) x2 (Rd_wrongPlace Rd)) Pg Pt Mk Lk Ck Jd Ld Pr)) C in_Rd t_Rd t_Rd_ok n_Rd hP (hDD _ _ _ _ _ _ _ _ _ _ _ _ _) hS 23 cw_23 rfl 4 (by decide) k_1_98 rfl rfl (by decide +kernel) rfl rfl (Nat.le_of_ble_eq_true rfl) rfl d_Rd_read_19 (fun H locs hP hS => ?_)
  refine lv_aload_n hx hb d_Rd_read_22 rfl (lv_at hl 0 rfl) ?_
  refine lv_iconst (v := (-1:Int32)) hx hb d_Rd_read_23 (by decide) ?_
  refine o_put (v := .int (-1:Int32)) (ty := .int) (w1 := (o_cw ad ca 1 Sj q1 T1 (Rd_mk (Rd_words Rd) (Rd_wordCount Rd) (0:Int32) x2 (-1:Int32)) Pg Pt Mk Lk Ck Jd Ld Pr)) C in_Rd t_Rd t_Rd_ok n_Rd hP (hDD _ _ _ _ _ _ _ _ _ _ _ _ _) hS 23 cw_23 rfl 5 (by decide) k_1_99 rfl rfl (by decide +kernel) rfl rfl (Nat.le_of_ble_eq_true rfl) rfl d_Rd_read_24 (fun H locs hP hS => ?_)
  refine lv_aload_n hx hb d_Rd_read_27 rfl (lv_at hl 0 rfl) ?_
  refine lv_iconst (v := (-1:Int32)) hx hb d_Rd_read_28 (by decide) ?_
  refine lv_iconst (v := (0:Int32)) hx hb d_Rd_read_29 (by decide) ?_
  refine lv_iconst (v := (1:Int32)) hx hb d_Rd_read_30 (by decide) ?_
  obtain ⟨q2, hq2, h⟩ := o_bd_some h
  refine o_V (st1 := [.int q2.1]) (w1 := (o_cw ad ca 1 Sj q2.2.1 T1 q2.2.2 Pg Pt Mk Lk Ck Jd Ld Pr)) hE.1 C (c_Rd_readValue_0 hE l n 43 (-1:Int32) (0:Int32) (1:Int32) q1 (Rd_mk (Rd_words Rd) (Rd_wordCount Rd) (0:Int32) x2 (-1:Int32)) Sj T1 Pg Pt Mk Lk Ck Jd Ld Pr hq2) hP (hDD _ _ _ _ _ _ _ _ _ _ _ _ _) hS hl.1 rfl cw_23 k_3_30 k_3_32 k_s_1 k_1_3 k_3_33 hv_Rd_readValue rfl rfl ⟨(Nat.le_of_ble_eq_true rfl), (Nat.le_of_ble_eq_true rfl)⟩ rfl (Nat.le_of_ble_eq_true rfl) ⟨Nat.zero_le _, Nat.zero_le _⟩ rfl d_Rd_read_31 (fun H locs hP hS => ?_)
  refine lv_istore_n (lv' := [(3, .int q2.1), (0, .ref (ad 23)), (1, .ref (ad 1)), (2, .int x2)]) hx hb d_Rd_read_34 rfl hl (by decide) rfl (fun ls hl => ?_)
  refine lv_iload_n hx hb d_Rd_read_35 rfl (lv_at hl 0 rfl) ?_
  refine lv_if_eq (tgt := 63) hx hb d_Rd_read_36 (by decide) (fun c1 => ?_) (fun c1 => ?_)
  · replace h := o_tt c1 h
    exact w_Rd_read_j63_0 hE C hDD n q2.2.1 q2.2.2 Sj T1 Pg Pt Mk Lk Ck Jd Ld Pr 1 h _ _ _ hP hS (lv_sub hl [1] rfl)
  · replace h := o_ff c1 h
    refine lv_aload_n hx hb d_Rd_read_39 rfl (lv_at hl 1 rfl) ?_
    obtain ⟨q4, hq4, h⟩ := o_bd_some h
    refine o_V (st1 := []) (w1 := (o_cw ad ca 1 Sj q2.2.1 T1 q4 Pg Pt Mk Lk Ck Jd Ld Pr)) hE.1 C (c_Rd_skipBlanks hE l n q2.2.2 Sj q2.2.1 T1 Pg Pt Mk Lk Ck Jd Ld Pr 1 hq4) hP (hDD _ _ _ _ _ _ _ _ _ _ _ _ _) hS hl.1 rfl cw_23 k_3_34 k_3_36 k_s_2 k_1_3 k_3_37 hv_Rd_skipBlanks rfl rfl ⟨(Nat.le_of_ble_eq_true rfl), (Nat.le_of_ble_eq_true rfl)⟩ rfl (Nat.le_of_ble_eq_true rfl) ⟨Nat.zero_le _, Nat.zero_le _⟩ rfl d_Rd_read_40 (fun H locs hP hS => ?_)
    refine lv_aload_n hx hb d_Rd_read_43 rfl (lv_at hl 1 rfl) ?_
    refine o_get (v := .int (Rd_position q4)) C in_Rd hP 23 cw_23 rfl 3 (by decide) k_1_97 rfl rfl d_Rd_read_44 ?_
    refine lv_aload_n hx hb d_Rd_read_47 rfl (lv_at hl 1 rfl) ?_
    refine o_get (v := .int (Rd_limit q4)) C in_Rd hP 23 cw_23 rfl 4 (by decide) k_1_98 rfl rfl d_Rd_read_48 ?_
    refine lv_icmp_ge (tgt := 63) hx hb d_Rd_read_51 (by decide) (fun c3 => ?_) (fun c3 => ?_)
    · replace h := o_tt c3 h
      exact w_Rd_read_j63_0 hE C hDD n q2.2.1 q4 Sj T1 Pg Pt Mk Lk Ck Jd Ld Pr 1 h _ _ _ hP hS (lv_sub hl [1] rfl)
    · replace h := o_ff c3 h
      refine lv_aload_n hx hb d_Rd_read_54 rfl (lv_at hl 1 rfl) ?_
      refine lv_aload_n hx hb d_Rd_read_55 rfl (lv_at hl 1 rfl) ?_
      refine o_get (v := .int (Rd_position q4)) C in_Rd hP 23 cw_23 rfl 3 (by decide) k_1_97 rfl rfl d_Rd_read_56 ?_
      obtain ⟨q5, hq5, h⟩ := o_bd_some h
      refine o_V (st1 := [.int q5.1]) (w1 := (o_cw ad ca 1 Sj q2.2.1 T1 q5.2 Pg Pt Mk Lk Ck Jd Ld Pr)) hE.1 C (c_Rd_refuse hE l (Rd_position q4) q4 Sj q2.2.1 T1 Pg Pt Mk Lk Ck Jd Ld Pr 1 hq5) hP (hDD _ _ _ _ _ _ _ _ _ _ _ _ _) hS hl.1 rfl cw_23 k_3_48 k_3_50 k_s_4 k_1_3 k_3_51 hv_Rd_refuse rfl rfl ⟨(Nat.le_of_ble_eq_true rfl), (Nat.le_of_ble_eq_true rfl)⟩ rfl (Nat.le_of_ble_eq_true rfl) ⟨Nat.zero_le _, Nat.zero_le _⟩ rfl d_Rd_read_59 (fun H locs hP hS => ?_)
      refine lv_pop hx hb d_Rd_read_62 rfl ?_
      exact w_Rd_read_j63_0 hE C hDD n q2.2.1 q5.2 Sj T1 Pg Pt Mk Lk Ck Jd Ld Pr 1 h _ _ _ hP hS (lv_sub hl [1] rfl)
set_option maxHeartbeats 4000000 in
set_option maxRecDepth 100000 in
theorem w_SJ_end_j22 {E : (Nat → Prop) → State → Heap → Prop} {p : Program} {l : Launch} {e : Env} {s : State} {m : MethodId} {args : Array Value} {below : List Frame} {meth : Method} {c : Code} {D : va_G} {ad kd sd vd xd : Nat → Nat} {ca : Nat → ClassId} {A : Nat → Prop} (hE : o_EK E kd sd vd xd) (C : o_Cx E p s m args meth c D o_cls (o_tys ca) "SchemaJudge" b_SJ_end (some .int) 4 cc_SJ_end A) (hDD : ∀ (rt : Nat) (Sj : SSJ) (T0 : STx) (T1 : STx) (Rd : SRd) (Pg : SPg) (Pt : SPt) (Mk : SMk) (Lk : SLk) (Ck : SCk) (Jd : SJd) (Ld : SLd) (Pr : SPr), va_D A (o_cw ad ca rt Sj T0 T1 Rd Pg Pt Mk Lk Ck Jd Ld Pr)) (hT : o_ET E) (htr : e.platform.stackTraces = false) (hne : c.exceptionTable.isEmpty = true) (n : Nat)  (T0 : STx) (T1 : STx) (Rd : SRd) (Ck : SCk) (Sj : SSJ) (Pg : SPg) (Pt : SPt) (Mk : SMk) (Lk : SLk) (Jd : SJd) (Ld : SLd) (Pr : SPr) (rt : Nat) {r : Nat × Int32 × STx × STx × SRd × SCk × SSJ × Nat} (h : m_SJ_end_j22 n rt T0 T1 Rd Ck Sj = some r) : o_At p l e rm_SJ_end s m args below meth c (o_MQT below (o_Qt D o_cls r.1 (some (.int r.2.1)) (o_cw ad ca r.2.2.2.2.2.2.2 r.2.2.2.2.2.2.1 r.2.2.1 r.2.2.2.1 r.2.2.2.2.1 Pg Pt Mk Lk r.2.2.2.2.2.1 Jd Ld Pr) A) args s 1 6 A) o_cls D A 4 22 [] (o_cw ad ca rt Sj T0 T1 Rd Pg Pt Mk Lk Ck Jd Ld Pr) [] := by
  unfold m_SJ_end_j22 at h
  intro H locs ls hP hS hl
  have C0 := C
  obtain ⟨hx, hb, -, -, -, hown, hts, hK, -, -⟩ := C0
  cases h
  exact o_thr (tx := "not so many octets") (msg := sd 1) hE.1 hT htr hne C (by decide +kernel) fit_n at_JI k_2_172 k_2_173 k_1_17 (fun A U H h9 => hE.2.2.2.2.2.1 A U H h9 ("SchemaJudge", 88, "not so many octets", 1) (List.mem_of_getElem? (i := 1) rfl)) hP hS hl.1 (show o_exn 1 = _ from rfl) (show (1 : Nat) ≠ 0 by decide) (Nat.le_of_ble_eq_true rfl) (Nat.le_of_ble_eq_true rfl) (Nat.le_of_ble_eq_true rfl) (Nat.le_of_ble_eq_true rfl) d_SJ_end_22 d_SJ_end_25 d_SJ_end_26 d_SJ_end_28 d_SJ_end_31
set_option maxHeartbeats 4000000 in
set_option maxRecDepth 100000 in
theorem w_SJ_end_j58 {E : (Nat → Prop) → State → Heap → Prop} {p : Program} {l : Launch} {e : Env} {s : State} {m : MethodId} {args : Array Value} {below : List Frame} {meth : Method} {c : Code} {D : va_G} {ad kd sd vd xd : Nat → Nat} {ca : Nat → ClassId} {A : Nat → Prop} (hE : o_EK E kd sd vd xd) (C : o_Cx E p s m args meth c D o_cls (o_tys ca) "SchemaJudge" b_SJ_end (some .int) 4 cc_SJ_end A) (hDD : ∀ (rt : Nat) (Sj : SSJ) (T0 : STx) (T1 : STx) (Rd : SRd) (Pg : SPg) (Pt : SPt) (Mk : SMk) (Lk : SLk) (Ck : SCk) (Jd : SJd) (Ld : SLd) (Pr : SPr), va_D A (o_cw ad ca rt Sj T0 T1 Rd Pg Pt Mk Lk Ck Jd Ld Pr)) (hT : o_ET E) (htr : e.platform.stackTraces = false) (hne : c.exceptionTable.isEmpty = true) (n : Nat) (x2 : Int32) (T0 : STx) (T1 : STx) (Rd : SRd) (Ck : SCk) (Sj : SSJ) (Pg : SPg) (Pt : SPt) (Mk : SMk) (Lk : SLk) (Jd : SJd) (Ld : SLd) (Pr : SPr) (rt : Nat) {r : Nat × Int32 × STx × STx × SRd × SCk × SSJ × Nat} (h : m_SJ_end_j58 n rt x2 T0 T1 Rd Ck Sj = some r) : o_At p l e rm_SJ_end s m args below meth c (o_MQT below (o_Qt D o_cls r.1 (some (.int r.2.1)) (o_cw ad ca r.2.2.2.2.2.2.2 r.2.2.2.2.2.2.1 r.2.2.1 r.2.2.2.1 r.2.2.2.2.1 Pg Pt Mk Lk r.2.2.2.2.2.1 Jd Ld Pr) A) args s 1 6 A) o_cls D A 4 58 [.ref (ad 12)] (o_cw ad ca rt Sj T0 T1 Rd Pg Pt Mk Lk Ck Jd Ld Pr) [(0, .ref (ad 0)), (2, .int x2)] := by
  unfold m_SJ_end_j58 at h
  intro H locs ls hP hS hl
  have C0 := C
  obtain ⟨hx, hb, -, -, -, hown, hts, hK, -, -⟩ := C0
  refine lv_astore_n (lv' := [(3, .ref (ad 12)), (0, .ref (ad 0)), (2, .int x2)]) hx hb d_SJ_end_58 rfl hl (by decide) rfl (fun ls hl => ?_)
  refine lv_aload_n hx hb d_SJ_end_59 rfl (lv_at hl 1 rfl) ?_
  refine lv_aload_n hx hb d_SJ_end_60 rfl (lv_at hl 1 rfl) ?_
  refine o_get (v := .ref (ad 23)) C in_SJ hP 0 cw_0 rfl 2 (by decide) k_2_113 rfl rfl d_SJ_end_61 ?_
  refine lv_aload_n hx hb d_SJ_end_64 rfl (lv_at hl 0 rfl) ?_
  refine lv_iload_n hx hb d_SJ_end_65 rfl (lv_at hl 2 rfl) ?_
  obtain ⟨q2, hq2, h⟩ := o_bd_some h
  refine o_V (st1 := [.int q2.1, .ref (ad 0)]) (w1 := (o_cw ad ca 12 Sj T0 q2.2.1 q2.2.2 Pg Pt Mk Lk Ck Jd Ld Pr)) hE.1 C (c_Rd_read_1 hE l n x2 T1 Rd Sj T0 Pg Pt Mk Lk Ck Jd Ld Pr rt hq2) hP (hDD _ _ _ _ _ _ _ _ _ _ _ _ _) hS hl.1 rfl cw_23 k_3_22 k_3_23 k_3_24 k_1_3 k_3_25 hv_Rd_read rfl rfl ⟨(Nat.le_of_ble_eq_true rfl), (Nat.le_of_ble_eq_true rfl)⟩ rfl (Nat.le_of_ble_eq_true rfl) ⟨Nat.zero_le _, Nat.zero_le _⟩ rfl d_SJ_end_66 (fun H locs hP hS => ?_)
  refine o_put (v := .int q2.1) (ty := .int) (w1 := (o_cw ad ca 12 (SJ_mk q2.1) T0 q2.2.1 q2.2.2 Pg Pt Mk Lk Ck Jd Ld Pr)) C in_SJ t_SJ t_SJ_ok n_SJ hP (hDD _ _ _ _ _ _ _ _ _ _ _ _ _) hS 0 cw_0 rfl 7 (by decide) k_2_118 rfl rfl (by decide +kernel) rfl rfl (Nat.le_of_ble_eq_true rfl) rfl d_SJ_end_69 (fun H locs hP hS => ?_)
  refine lv_aload_n hx hb d_SJ_end_72 rfl (lv_at hl 1 rfl) ?_
  refine o_get (v := .int q2.1) C in_SJ hP 0 cw_0 rfl 7 (by decide) k_2_118 rfl rfl d_SJ_end_73 ?_
  refine lv_iconst (v := (-1:Int32)) hx hb d_SJ_end_76 (by decide) ?_
  refine lv_icmp_eq (tgt := 90) hx hb d_SJ_end_77 (by decide) (fun c6 => ?_) (fun c6 => ?_)
  · replace h := o_tt c6 h
    refine lv_aload_n hx hb d_SJ_end_90 rfl (lv_at hl 0 rfl) ?_
    obtain ⟨q3, hq3, h⟩ := o_bd_some h
    refine o_V (st1 := [.int q3]) (w1 := (o_cw ad ca 12 (SJ_mk q2.1) T0 q2.2.1 q2.2.2 Pg Pt Mk Lk Ck Jd Ld Pr)) hE.1 C (c_Tx_total_1 hE l q2.2.1 (SJ_mk q2.1) T0 q2.2.2 Pg Pt Mk Lk Ck Jd Ld Pr 12 hq3) hP (hDD _ _ _ _ _ _ _ _ _ _ _ _ _) hS hl.1 rfl cw_12 k_4_5 k_4_6 k_4_7 k_1_2 k_4_8 hv_Tx_total rfl rfl ⟨(Nat.le_of_ble_eq_true rfl), (Nat.le_of_ble_eq_true rfl)⟩ rfl (Nat.le_of_ble_eq_true rfl) ⟨Nat.zero_le _, Nat.zero_le _⟩ rfl d_SJ_end_91 (fun H locs hP hS => ?_)
    cases h
    exact o_ret0 (o_ri C hP hS d_SJ_end_94)
  · replace h := o_ff c6 h
    cases h
    exact o_thr (tx := "the text is wrong") (msg := sd 5) hE.1 hT htr hne C (by decide +kernel) fit_n at_JG k_3_229 k_3_230 k_1_22 (fun A U H h9 => hE.2.2.2.2.2.1 A U H h9 ("SchemaJudge", 99, "the text is wrong", 5) (List.mem_of_getElem? (i := 5) rfl)) hP hS hl.1 (show o_exn 2 = _ from rfl) (show (2 : Nat) ≠ 0 by decide) (Nat.le_of_ble_eq_true rfl) (Nat.le_of_ble_eq_true rfl) (Nat.le_of_ble_eq_true rfl) (Nat.le_of_ble_eq_true rfl) d_SJ_end_80 d_SJ_end_83 d_SJ_end_84 d_SJ_end_86 d_SJ_end_89
set_option maxHeartbeats 4000000 in
set_option maxRecDepth 100000 in
theorem w_SJ_end_j58v4 {E : (Nat → Prop) → State → Heap → Prop} {p : Program} {l : Launch} {e : Env} {s : State} {m : MethodId} {args : Array Value} {below : List Frame} {meth : Method} {c : Code} {D : va_G} {ad kd sd vd xd : Nat → Nat} {ca : Nat → ClassId} {A : Nat → Prop} (hE : o_EK E kd sd vd xd) (C : o_Cx E p s m args meth c D o_cls (o_tys ca) "SchemaJudge" b_SJ_end (some .int) 4 cc_SJ_end A) (hDD : ∀ (rt : Nat) (Sj : SSJ) (T0 : STx) (T1 : STx) (Rd : SRd) (Pg : SPg) (Pt : SPt) (Mk : SMk) (Lk : SLk) (Ck : SCk) (Jd : SJd) (Ld : SLd) (Pr : SPr), va_D A (o_cw ad ca rt Sj T0 T1 Rd Pg Pt Mk Lk Ck Jd Ld Pr)) (hT : o_ET E) (htr : e.platform.stackTraces = false) (hne : c.exceptionTable.isEmpty = true) (n : Nat) (x2 : Int32) (T0 : STx) (T1 : STx) (Rd : SRd) (Ck : SCk) (Sj : SSJ) (Pg : SPg) (Pt : SPt) (Mk : SMk) (Lk : SLk) (Jd : SJd) (Ld : SLd) (Pr : SPr) (rt : Nat) {r : Nat × Int32 × STx × STx × SRd × SCk × SSJ × Nat} (h : m_SJ_end_j58v4 n rt x2 T0 T1 Rd Ck Sj = some r) : o_At p l e rm_SJ_end s m args below meth c (o_MQT below (o_Qt D o_cls r.1 (some (.int r.2.1)) (o_cw ad ca r.2.2.2.2.2.2.2 r.2.2.2.2.2.2.1 r.2.2.1 r.2.2.2.1 r.2.2.2.2.1 Pg Pt Mk Lk r.2.2.2.2.2.1 Jd Ld Pr) A) args s 1 6 A) o_cls D A 4 58 [.ref (ad 1)] (o_cw ad ca rt Sj T0 T1 Rd Pg Pt Mk Lk Ck Jd Ld Pr) [(0, .ref (ad 0)), (2, .int x2)] := by
  unfold m_SJ_end_j58v4 at h
  intro H locs ls hP hS hl
  have C0 := C
  obtain ⟨hx, hb, -, -, -, hown, hts, hK, -, -⟩ := C0
  refine lv_astore_n (lv' := [(3, .ref (ad 1)), (0, .ref (ad 0)), (2, .int x2)]) hx hb d_SJ_end_58 rfl hl (by decide) rfl (fun ls hl => ?_)
  refine lv_aload_n hx hb d_SJ_end_59 rfl (lv_at hl 1 rfl) ?_
  refine lv_aload_n hx hb d_SJ_end_60 rfl (lv_at hl 1 rfl) ?_
  refine o_get (v := .ref (ad 23)) C in_SJ hP 0 cw_0 rfl 2 (by decide) k_2_113 rfl rfl d_SJ_end_61 ?_
  refine lv_aload_n hx hb d_SJ_end_64 rfl (lv_at hl 0 rfl) ?_
  refine lv_iload_n hx hb d_SJ_end_65 rfl (lv_at hl 2 rfl) ?_
  obtain ⟨q4, hq4, h⟩ := o_bd_some h
  refine o_V (st1 := [.int q4.1, .ref (ad 0)]) (w1 := (o_cw ad ca 1 Sj q4.2.1 T1 q4.2.2 Pg Pt Mk Lk Ck Jd Ld Pr)) hE.1 C (c_Rd_read_0 hE l n x2 T0 Rd Sj T1 Pg Pt Mk Lk Ck Jd Ld Pr rt hq4) hP (hDD _ _ _ _ _ _ _ _ _ _ _ _ _) hS hl.1 rfl cw_23 k_3_22 k_3_23 k_3_24 k_1_3 k_3_25 hv_Rd_read rfl rfl ⟨(Nat.le_of_ble_eq_true rfl), (Nat.le_of_ble_eq_true rfl)⟩ rfl (Nat.le_of_ble_eq_true rfl) ⟨Nat.zero_le _, Nat.zero_le _⟩ rfl d_SJ_end_66 (fun H locs hP hS => ?_)
  refine o_put (v := .int q4.1) (ty := .int) (w1 := (o_cw ad ca 1 (SJ_mk q4.1) q4.2.1 T1 q4.2.2 Pg Pt Mk Lk Ck Jd Ld Pr)) C in_SJ t_SJ t_SJ_ok n_SJ hP (hDD _ _ _ _ _ _ _ _ _ _ _ _ _) hS 0 cw_0 rfl 7 (by decide) k_2_118 rfl rfl (by decide +kernel) rfl rfl (Nat.le_of_ble_eq_true rfl) rfl d_SJ_end_69 (fun H locs hP hS => ?_)
  refine lv_aload_n hx hb d_SJ_end_72 rfl (lv_at hl 1 rfl) ?_
  refine o_get (v := .int q4.1) C in_SJ hP 0 cw_0 rfl 7 (by decide) k_2_118 rfl rfl d_SJ_end_73 ?_
  refine lv_iconst (v := (-1:Int32)) hx hb d_SJ_end_76 (by decide) ?_
  refine lv_icmp_eq (tgt := 90) hx hb d_SJ_end_77 (by decide) (fun c7 => ?_) (fun c7 => ?_)
  · replace h := o_tt c7 h
    refine lv_aload_n hx hb d_SJ_end_90 rfl (lv_at hl 0 rfl) ?_
    obtain ⟨q5, hq5, h⟩ := o_bd_some h
    refine o_V (st1 := [.int q5]) (w1 := (o_cw ad ca 1 (SJ_mk q4.1) q4.2.1 T1 q4.2.2 Pg Pt Mk Lk Ck Jd Ld Pr)) hE.1 C (c_Tx_total_0 hE l q4.2.1 (SJ_mk q4.1) T1 q4.2.2 Pg Pt Mk Lk Ck Jd Ld Pr 1 hq5) hP (hDD _ _ _ _ _ _ _ _ _ _ _ _ _) hS hl.1 rfl cw_1 k_4_5 k_4_6 k_4_7 k_1_2 k_4_8 hv_Tx_total rfl rfl ⟨(Nat.le_of_ble_eq_true rfl), (Nat.le_of_ble_eq_true rfl)⟩ rfl (Nat.le_of_ble_eq_true rfl) ⟨Nat.zero_le _, Nat.zero_le _⟩ rfl d_SJ_end_91 (fun H locs hP hS => ?_)
    cases h
    exact o_ret0 (o_ri C hP hS d_SJ_end_94)
  · replace h := o_ff c7 h
    cases h
    exact o_thr (tx := "the text is wrong") (msg := sd 5) hE.1 hT htr hne C (by decide +kernel) fit_n at_JG k_3_229 k_3_230 k_1_22 (fun A U H h9 => hE.2.2.2.2.2.1 A U H h9 ("SchemaJudge", 99, "the text is wrong", 5) (List.mem_of_getElem? (i := 5) rfl)) hP hS hl.1 (show o_exn 2 = _ from rfl) (show (2 : Nat) ≠ 0 by decide) (Nat.le_of_ble_eq_true rfl) (Nat.le_of_ble_eq_true rfl) (Nat.le_of_ble_eq_true rfl) (Nat.le_of_ble_eq_true rfl) d_SJ_end_80 d_SJ_end_83 d_SJ_end_84 d_SJ_end_86 d_SJ_end_89
set_option maxHeartbeats 4000000 in
set_option maxRecDepth 100000 in
theorem w_SJ_end_j43 {E : (Nat → Prop) → State → Heap → Prop} {p : Program} {l : Launch} {e : Env} {s : State} {m : MethodId} {args : Array Value} {below : List Frame} {meth : Method} {c : Code} {D : va_G} {ad kd sd vd xd : Nat → Nat} {ca : Nat → ClassId} {A : Nat → Prop} (hE : o_EK E kd sd vd xd) (C : o_Cx E p s m args meth c D o_cls (o_tys ca) "SchemaJudge" b_SJ_end (some .int) 4 cc_SJ_end A) (hDD : ∀ (rt : Nat) (Sj : SSJ) (T0 : STx) (T1 : STx) (Rd : SRd) (Pg : SPg) (Pt : SPt) (Mk : SMk) (Lk : SLk) (Ck : SCk) (Jd : SJd) (Ld : SLd) (Pr : SPr), va_D A (o_cw ad ca rt Sj T0 T1 Rd Pg Pt Mk Lk Ck Jd Ld Pr)) (hT : o_ET E) (htr : e.platform.stackTraces = false) (hne : c.exceptionTable.isEmpty = true) (n : Nat) (x1 : Int32) (x2 : Int32) (T0 : STx) (T1 : STx) (Rd : SRd) (Ck : SCk) (Sj : SSJ) (Pg : SPg) (Pt : SPt) (Mk : SMk) (Lk : SLk) (Jd : SJd) (Ld : SLd) (Pr : SPr) (rt : Nat) {r : Nat × Int32 × STx × STx × SRd × SCk × SSJ × Nat} (h : m_SJ_end_j43 n rt x1 x2 T0 T1 Rd Ck Sj = some r) : o_At p l e rm_SJ_end s m args below meth c (o_MQT below (o_Qt D o_cls r.1 (some (.int r.2.1)) (o_cw ad ca r.2.2.2.2.2.2.2 r.2.2.2.2.2.2.1 r.2.2.1 r.2.2.2.1 r.2.2.2.2.1 Pg Pt Mk Lk r.2.2.2.2.2.1 Jd Ld Pr) A) args s 1 6 A) o_cls D A 4 43 [] (o_cw ad ca rt Sj T0 T1 Rd Pg Pt Mk Lk Ck Jd Ld Pr) [(0, .ref (ad 0)), (1, .int x1), (2, .int x2)] := by
  unfold m_SJ_end_j43 at h
  intro H locs ls hP hS hl
  have C0 := C
  obtain ⟨hx, hb, -, -, -, hown, hts, hK, -, -⟩ := C0
  refine lv_iload_n hx hb d_SJ_end_43 rfl (lv_at hl 1 rfl) ?_
  refine lv_if_eq (tgt := 54) hx hb d_SJ_end_44 (by decide) (fun c5 => ?_) (fun c5 => ?_)
  · replace h := o_tt c5 h
    refine lv_aload_n hx hb d_SJ_end_54 rfl (lv_at hl 0 rfl) ?_
    refine o_get (v := .ref (ad 12)) C in_SJ hP 0 cw_0 rfl 1 (by decide) k_2_112 rfl rfl d_SJ_end_55 ?_
    exact w_SJ_end_j58 hE C hDD hT htr hne n x2 T0 T1 Rd Ck Sj Pg Pt Mk Lk Jd Ld Pr rt h _ _ _ hP hS (lv_sub hl [0, 2] rfl)
  · replace h := o_ff c5 h
    refine lv_aload_n hx hb d_SJ_end_47 rfl (lv_at hl 0 rfl) ?_
    refine o_get (v := .ref (ad 1)) C in_SJ hP 0 cw_0 rfl 0 (by decide) k_2_111 rfl rfl d_SJ_end_48 ?_
    refine lv_goto (tgt := 58) hx hb d_SJ_end_51 (by decide) ?_
    exact w_SJ_end_j58v4 hE C hDD hT htr hne n x2 T0 T1 Rd Ck Sj Pg Pt Mk Lk Jd Ld Pr rt h _ _ _ hP hS (lv_sub hl [0, 2] rfl)
set_option maxHeartbeats 4000000 in
set_option maxRecDepth 100000 in
theorem c_SJ_end {E : (Nat → Prop) → State → Heap → Prop} {D : va_G} {ad kd sd vd xd : Nat → Nat} {ca : Nat → ClassId} (hE : o_EK E kd sd vd xd) (hT : o_ET E) (l : Launch) (hfl : l.flags = pinnedFlags ++ [noTraceFlag]) (n : Nat) (x1 : Int32) (x2 : Int32) (T0 : STx) (T1 : STx) (Rd : SRd) (Ck : SCk) (Sj : SSJ) (Pg : SPg) (Pt : SPt) (Mk : SMk) (Lk : SLk) (Jd : SJd) (Ld : SLd) (Pr : SPr) (rt : Nat) {r : Nat × Int32 × STx × STx × SRd × SCk × SSJ × Nat} (h : m_SJ_end n rt x1 x2 T0 T1 Rd Ck Sj = some r) : o_Ct E l D o_cls (o_tys ca) y_SJ_end cc_SJ_end rm_SJ_end [.ref (ad 0), .int x1, .int x2] (o_cw ad ca rt Sj T0 T1 Rd Pg Pt Mk Lk Ck Jd Ld Pr) (o_cw ad ca r.2.2.2.2.2.2.2 r.2.2.2.2.2.2.1 r.2.2.1 r.2.2.2.1 r.2.2.2.2.1 Pg Pt Mk Lk r.2.2.2.2.2.1 Jd Ld Pr) r.1 (some (.int r.2.1)) := by
  refine o_Ct_of hfl (by decide) (Nat.le_of_ble_eq_true rfl) ?_
  intro p e s m below meth c A ls htr hne C hD hP hS hl
  have hDD : ∀ (rt : Nat) (Sj : SSJ) (T0 : STx) (T1 : STx) (Rd : SRd) (Pg : SPg) (Pt : SPt) (Mk : SMk) (Lk : SLk) (Ck : SCk) (Jd : SJd) (Ld : SLd) (Pr : SPr), va_D A (o_cw ad ca rt Sj T0 T1 Rd Pg Pt Mk Lk Ck Jd Ld Pr) := fun _ _ _ _ _ _ _ _ _ _ _ _ _ => o_D_map hD rfl
  have hl : lv_has ls 4 [(0, .ref (ad 0)), (1, .int x1), (2, .int x2)] := hl
  unfold m_SJ_end at h
  have C0 := C
  obtain ⟨hx, hb, -, -, -, hown, hts, hK, -, -⟩ := C0
  refine lv_iload_n hx hb d_SJ_end_0 rfl (lv_at hl 2 rfl) ?_
  refine lv_if_lt (tgt := 22) hx hb d_SJ_end_1 (by decide) (fun c1 => ?_) (fun c1 => ?_)
  · replace h := o_tt c1 h
    exact w_SJ_end_j22 hE C hDD hT htr hne n T0 T1 Rd Ck Sj Pg Pt Mk Lk Jd Ld Pr rt h _ _ _ hP hS (lv_sub hl [] rfl)
  · replace h := o_ff c1 h
    refine lv_iload_n hx hb d_SJ_end_4 rfl (lv_at hl 2 rfl) ?_
    refine lv_sipush (v := (8192:Int32)) hx hb d_SJ_end_5 (by decide) ?_
    refine lv_icmp_gt (tgt := 22) hx hb d_SJ_end_8 (by decide) (fun c2 => ?_) (fun c2 => ?_)
    · replace h := o_tt c2 h
      exact w_SJ_end_j22 hE C hDD hT htr hne n T0 T1 Rd Ck Sj Pg Pt Mk Lk Jd Ld Pr rt h _ _ _ hP hS (lv_sub hl [] rfl)
    · replace h := o_ff c2 h
      refine lv_iload_n hx hb d_SJ_end_11 rfl (lv_at hl 2 rfl) ?_
      refine lv_aload_n hx hb d_SJ_end_12 rfl (lv_at hl 0 rfl) ?_
      refine o_get (v := .ref (ad 23)) C in_SJ hP 0 cw_0 rfl 2 (by decide) k_2_113 rfl rfl d_SJ_end_13 ?_
      obtain ⟨q1, hq1, h⟩ := o_bd_some h
      refine o_V (st1 := [.int q1, .int x2]) (w1 := (o_cw ad ca rt Sj T0 T1 Rd Pg Pt Mk Lk Ck Jd Ld Pr)) hE.1 C (c_Rd_octets hE l Rd Sj T0 T1 Pg Pt Mk Lk Ck Jd Ld Pr rt hq1) hP (hDD _ _ _ _ _ _ _ _ _ _ _ _ _) hS hl.1 rfl cw_23 k_3_5 k_3_6 k_3_7 k_1_3 k_3_8 hv_Rd_octets rfl rfl ⟨(Nat.le_of_ble_eq_true rfl), (Nat.le_of_ble_eq_true rfl)⟩ rfl (Nat.le_of_ble_eq_true rfl) ⟨Nat.zero_le _, Nat.zero_le _⟩ rfl d_SJ_end_16 (fun H locs hP hS => ?_)
      refine lv_icmp_le (tgt := 32) hx hb d_SJ_end_19 (by decide) (fun c3 => ?_) (fun c3 => ?_)
      · replace h := o_tt c3 h
        refine lv_iload_n hx hb d_SJ_end_32 rfl (lv_at hl 1 rfl) ?_
        refine lv_if_eq (tgt := 43) hx hb d_SJ_end_33 (by decide) (fun c4 => ?_) (fun c4 => ?_)
        · replace h := o_tt c4 h
          exact w_SJ_end_j43 hE C hDD hT htr hne n x1 x2 T0 T1 Rd Ck Sj Pg Pt Mk Lk Jd Ld Pr rt h _ _ _ hP hS (lv_sub hl [0, 1, 2] rfl)
        · replace h := o_ff c4 h
          refine lv_aload_n hx hb d_SJ_end_36 rfl (lv_at hl 0 rfl) ?_
          refine o_get (v := .ref (ad 45)) C in_SJ hP 0 cw_0 rfl 5 (by decide) k_2_116 rfl rfl d_SJ_end_37 ?_
          obtain ⟨q6, hq6, h⟩ := o_bd_some h
          refine o_V (st1 := []) (w1 := (o_cw ad ca rt Sj T0 T1 Rd Pg Pt Mk Lk q6 Jd Ld Pr)) hE.1 C (c_Ck_forget hE l Ck Sj T0 T1 Rd Pg Pt Mk Lk Jd Ld Pr rt hq6) hP (hDD _ _ _ _ _ _ _ _ _ _ _ _ _) hS hl.1 rfl cw_45 k_3_18 k_3_19 k_3_20 k_1_7 k_3_21 hv_Ck_forget rfl rfl ⟨(Nat.le_of_ble_eq_true rfl), (Nat.le_of_ble_eq_true rfl)⟩ rfl (Nat.le_of_ble_eq_true rfl) ⟨Nat.zero_le _, Nat.zero_le _⟩ rfl d_SJ_end_40 (fun H locs hP hS => ?_)
          exact w_SJ_end_j43 hE C hDD hT htr hne n x1 x2 T0 T1 Rd q6 Sj Pg Pt Mk Lk Jd Ld Pr rt h _ _ _ hP hS (lv_sub hl [0, 1, 2] rfl)
      · replace h := o_ff c3 h
        exact w_SJ_end_j22 hE C hDD hT htr hne n T0 T1 Rd Ck Sj Pg Pt Mk Lk Jd Ld Pr rt h _ _ _ hP hS (lv_sub hl [] rfl)
set_option maxHeartbeats 4000000 in
set_option maxRecDepth 100000 in
theorem c_SJ_check {E : (Nat → Prop) → State → Heap → Prop} {D : va_G} {ad kd sd vd xd : Nat → Nat} {ca : Nat → ClassId} (hE : o_EK E kd sd vd xd) (hT : o_ET E) (l : Launch) (hfl : l.flags = pinnedFlags ++ [noTraceFlag]) (n : Nat)  (T0 : STx) (Pg : SPg) (Pt : SPt) (Mk : SMk) (Lk : SLk) (Ck : SCk) (Sj : SSJ) (T1 : STx) (Rd : SRd) (Jd : SJd) (Ld : SLd) (Pr : SPr) (rt : Nat) {r : Nat × Int32 × SPg × SPt × SMk × SLk × SCk} (h : m_SJ_check n T0 Pg Pt Mk Lk Ck = some r) : o_Ct E l D o_cls (o_tys ca) y_SJ_check cc_SJ_check rm_SJ_check [.ref (ad 0)] (o_cw ad ca rt Sj T0 T1 Rd Pg Pt Mk Lk Ck Jd Ld Pr) (o_cw ad ca rt Sj T0 T1 Rd r.2.2.1 r.2.2.2.1 r.2.2.2.2.1 r.2.2.2.2.2.1 r.2.2.2.2.2.2 Jd Ld Pr) r.1 (some (.int r.2.1)) := by
  refine o_Ct_of hfl (by decide) (Nat.le_of_ble_eq_true rfl) ?_
  intro p e s m below meth c A ls htr hne C hD hP hS hl
  have hDD : ∀ (rt : Nat) (Sj : SSJ) (T0 : STx) (T1 : STx) (Rd : SRd) (Pg : SPg) (Pt : SPt) (Mk : SMk) (Lk : SLk) (Ck : SCk) (Jd : SJd) (Ld : SLd) (Pr : SPr), va_D A (o_cw ad ca rt Sj T0 T1 Rd Pg Pt Mk Lk Ck Jd Ld Pr) := fun _ _ _ _ _ _ _ _ _ _ _ _ _ => o_D_map hD rfl
  have hl : lv_has ls 1 [(0, .ref (ad 0))] := hl
  unfold m_SJ_check at h
  have C0 := C
  obtain ⟨hx, hb, -, -, -, hown, hts, hK, -, -⟩ := C0
  refine lv_aload_n hx hb d_SJ_check_0 rfl (lv_at hl 0 rfl) ?_
  refine o_get (v := .ref (ad 1)) C in_SJ hP 0 cw_0 rfl 0 (by decide) k_2_111 rfl rfl d_SJ_check_1 ?_
  obtain ⟨q1, hq1, h⟩ := o_bd_some h
  refine o_V (st1 := [.int q1]) (w1 := (o_cw ad ca rt Sj T0 T1 Rd Pg Pt Mk Lk Ck Jd Ld Pr)) hE.1 C (c_Tx_total_0 hE l T0 Sj T1 Rd Pg Pt Mk Lk Ck Jd Ld Pr rt hq1) hP (hDD _ _ _ _ _ _ _ _ _ _ _ _ _) hS hl.1 rfl cw_1 k_4_5 k_4_6 k_4_7 k_1_2 k_4_8 hv_Tx_total rfl rfl ⟨(Nat.le_of_ble_eq_true rfl), (Nat.le_of_ble_eq_true rfl)⟩ rfl (Nat.le_of_ble_eq_true rfl) ⟨Nat.zero_le _, Nat.zero_le _⟩ rfl d_SJ_check_4 (fun H locs hP hS => ?_)
  refine lv_if_ne (tgt := 20) hx hb d_SJ_check_7 (by decide) (fun c1 => ?_) (fun c1 => ?_)
  · replace h := o_ff c1 h
    refine lv_aload_n hx hb d_SJ_check_20 rfl (lv_at hl 0 rfl) ?_
    refine o_get (v := .ref (ad 45)) C in_SJ hP 0 cw_0 rfl 5 (by decide) k_2_116 rfl rfl d_SJ_check_21 ?_
    obtain ⟨q2, hq2, h⟩ := o_bd_some h
    refine o_V (st1 := [.int q2.1]) (w1 := (o_cw ad ca rt Sj T0 T1 Rd q2.2.1 q2.2.2.1 q2.2.2.2.1 q2.2.2.2.2.1 q2.2.2.2.2.2 Jd Ld Pr)) hE.1 C (c_Ck_inspect hE l n T0 Pg Pt Mk Lk Ck Sj T1 Rd Jd Ld Pr rt hq2) hP (hDD _ _ _ _ _ _ _ _ _ _ _ _ _) hS hl.1 rfl cw_45 k_4_33 k_4_34 k_4_35 k_1_7 k_4_36 hv_Ck_inspect rfl rfl ⟨(Nat.le_of_ble_eq_true rfl), (Nat.le_of_ble_eq_true rfl)⟩ rfl (Nat.le_of_ble_eq_true rfl) ⟨Nat.zero_le _, Nat.zero_le _⟩ rfl d_SJ_check_24 (fun H locs hP hS => ?_)
    cases h
    exact o_ret0 (o_ri C hP hS d_SJ_check_27)
  · replace h := o_tt c1 h
    cases h
    exact o_thr (tx := "no schema") (msg := sd 6) hE.1 hT htr hne C (by decide +kernel) fit_n at_JQ k_4_17 k_4_18 k_1_23 (fun A U H h9 => hE.2.2.2.2.2.1 A U H h9 ("SchemaJudge", 107, "no schema", 6) (List.mem_of_getElem? (i := 6) rfl)) hP hS hl.1 (show o_exn 3 = _ from rfl) (show (3 : Nat) ≠ 0 by decide) (Nat.le_of_ble_eq_true rfl) (Nat.le_of_ble_eq_true rfl) (Nat.le_of_ble_eq_true rfl) (Nat.le_of_ble_eq_true rfl) d_SJ_check_10 d_SJ_check_13 d_SJ_check_14 d_SJ_check_16 d_SJ_check_19
set_option maxHeartbeats 4000000 in
set_option maxRecDepth 100000 in
theorem w_SJ_validate_j20 {E : (Nat → Prop) → State → Heap → Prop} {p : Program} {l : Launch} {e : Env} {s : State} {m : MethodId} {args : Array Value} {below : List Frame} {meth : Method} {c : Code} {D : va_G} {ad kd sd vd xd : Nat → Nat} {ca : Nat → ClassId} {A : Nat → Prop} (hE : o_EK E kd sd vd xd) (C : o_Cx E p s m args meth c D o_cls (o_tys ca) "SchemaJudge" b_SJ_validate (some .boolean) 2 cc_SJ_validate A) (hDD : ∀ (rt : Nat) (Sj : SSJ) (T0 : STx) (T1 : STx) (Rd : SRd) (Pg : SPg) (Pt : SPt) (Mk : SMk) (Lk : SLk) (Ck : SCk) (Jd : SJd) (Ld : SLd) (Pr : SPr), va_D A (o_cw ad ca rt Sj T0 T1 Rd Pg Pt Mk Lk Ck Jd Ld Pr)) (hT : o_ET E) (htr : e.platform.stackTraces = false) (hne : c.exceptionTable.isEmpty = true) (n : Nat)  (T0 : STx) (T1 : STx) (Pg : SPg) (Pt : SPt) (Mk : SMk) (Ck : SCk) (Ld : SLd) (Pr : SPr) (Jd : SJd) (Sj : SSJ) (Rd : SRd) (Lk : SLk) (rt : Nat) {r : Nat × Int32 × SPg × SPt × SLd × SPr × SJd} (h : m_SJ_validate_j20 n T0 T1 Pg Pt Mk Ck Ld Pr Jd = some r) : o_At p l e rm_SJ_validate s m args below meth c (o_MQT below (o_Qt D o_cls r.1 (some (.int r.2.1)) (o_cw ad ca rt Sj T0 T1 Rd r.2.2.1 r.2.2.2.1 Mk Lk Ck r.2.2.2.2.2.2 r.2.2.2.2.1 r.2.2.2.2.2.1) A) args s 1 6 A) o_cls D A 2 20 [] (o_cw ad ca rt Sj T0 T1 Rd Pg Pt Mk Lk Ck Jd Ld Pr) [] := by
  unfold m_SJ_validate_j20 at h
  intro H locs ls hP hS hl
  have C0 := C
  obtain ⟨hx, hb, -, -, -, hown, hts, hK, -, -⟩ := C0
  cases h
  exact o_thr (tx := "no instance, or no schema without a fault") (msg := sd 17) hE.1 hT htr hne C (by decide +kernel) fit_n at_JQ k_4_17 k_4_18 k_1_23 (fun A U H h9 => hE.2.2.2.2.2.1 A U H h9 ("SchemaJudge", 119, "no instance, or no schema without a fault", 17) (List.mem_of_getElem? (i := 18) rfl)) hP hS hl.1 (show o_exn 3 = _ from rfl) (show (3 : Nat) ≠ 0 by decide) (Nat.le_of_ble_eq_true rfl) (Nat.le_of_ble_eq_true rfl) (Nat.le_of_ble_eq_true rfl) (Nat.le_of_ble_eq_true rfl) d_SJ_validate_20 d_SJ_validate_23 d_SJ_validate_24 d_SJ_validate_26 d_SJ_validate_29
set_option maxHeartbeats 4000000 in
set_option maxRecDepth 100000 in
theorem c_SJ_validate {E : (Nat → Prop) → State → Heap → Prop} {D : va_G} {ad kd sd vd xd : Nat → Nat} {ca : Nat → ClassId} (hE : o_EK E kd sd vd xd) (hT : o_ET E) (l : Launch) (hfl : l.flags = pinnedFlags ++ [noTraceFlag]) (n : Nat)  (T0 : STx) (T1 : STx) (Pg : SPg) (Pt : SPt) (Mk : SMk) (Ck : SCk) (Ld : SLd) (Pr : SPr) (Jd : SJd) (Sj : SSJ) (Rd : SRd) (Lk : SLk) (rt : Nat) {r : Nat × Int32 × SPg × SPt × SLd × SPr × SJd} (h : m_SJ_validate n T0 T1 Pg Pt Mk Ck Ld Pr Jd = some r) : o_Ct E l D o_cls (o_tys ca) y_SJ_validate cc_SJ_validate rm_SJ_validate [.ref (ad 0)] (o_cw ad ca rt Sj T0 T1 Rd Pg Pt Mk Lk Ck Jd Ld Pr) (o_cw ad ca rt Sj T0 T1 Rd r.2.2.1 r.2.2.2.1 Mk Lk Ck r.2.2.2.2.2.2 r.2.2.2.2.1 r.2.2.2.2.2.1) r.1 (some (.int r.2.1)) := by
  refine o_Ct_of hfl (by decide) (Nat.le_of_ble_eq_true rfl) ?_
  intro p e s m below meth c A ls htr hne C hD hP hS hl
  have hDD : ∀ (rt : Nat) (Sj : SSJ) (T0 : STx) (T1 : STx) (Rd : SRd) (Pg : SPg) (Pt : SPt) (Mk : SMk) (Lk : SLk) (Ck : SCk) (Jd : SJd) (Ld : SLd) (Pr : SPr), va_D A (o_cw ad ca rt Sj T0 T1 Rd Pg Pt Mk Lk Ck Jd Ld Pr) := fun _ _ _ _ _ _ _ _ _ _ _ _ _ => o_D_map hD rfl
  have hl : lv_has ls 2 [(0, .ref (ad 0))] := hl
  unfold m_SJ_validate at h
  have C0 := C
  obtain ⟨hx, hb, -, -, -, hown, hts, hK, -, -⟩ := C0
  refine lv_aload_n hx hb d_SJ_validate_0 rfl (lv_at hl 0 rfl) ?_
  refine o_get (v := .ref (ad 12)) C in_SJ hP 0 cw_0 rfl 1 (by decide) k_2_112 rfl rfl d_SJ_validate_1 ?_
  obtain ⟨q1, hq1, h⟩ := o_bd_some h
  refine o_V (st1 := [.int q1]) (w1 := (o_cw ad ca rt Sj T0 T1 Rd Pg Pt Mk Lk Ck Jd Ld Pr)) hE.1 C (c_Tx_total_1 hE l T1 Sj T0 Rd Pg Pt Mk Lk Ck Jd Ld Pr rt hq1) hP (hDD _ _ _ _ _ _ _ _ _ _ _ _ _) hS hl.1 rfl cw_12 k_4_5 k_4_6 k_4_7 k_1_2 k_4_8 hv_Tx_total rfl rfl ⟨(Nat.le_of_ble_eq_true rfl), (Nat.le_of_ble_eq_true rfl)⟩ rfl (Nat.le_of_ble_eq_true rfl) ⟨Nat.zero_le _, Nat.zero_le _⟩ rfl d_SJ_validate_4 (fun H locs hP hS => ?_)
  refine lv_if_eq (tgt := 20) hx hb d_SJ_validate_7 (by decide) (fun c1 => ?_) (fun c1 => ?_)
  · replace h := o_tt c1 h
    exact w_SJ_validate_j20 hE C hDD hT htr hne n T0 T1 Pg Pt Mk Ck Ld Pr Jd Sj Rd Lk rt h _ _ _ hP hS (lv_sub hl [] rfl)
  · replace h := o_ff c1 h
    refine lv_aload_n hx hb d_SJ_validate_10 rfl (lv_at hl 0 rfl) ?_
    refine o_get (v := .ref (ad 45)) C in_SJ hP 0 cw_0 rfl 5 (by decide) k_2_116 rfl rfl d_SJ_validate_11 ?_
    obtain ⟨q2, hq2, h⟩ := o_bd_some h
    refine o_V (st1 := [.int q2]) (w1 := (o_cw ad ca rt Sj T0 T1 Rd Pg Pt Mk Lk Ck Jd Ld Pr)) hE.1 C (c_Ck_passed hE l Ck Sj T0 T1 Rd Pg Pt Mk Lk Jd Ld Pr rt hq2) hP (hDD _ _ _ _ _ _ _ _ _ _ _ _ _) hS hl.1 rfl cw_45 k_5_234 k_5_235 k_5_236 k_1_7 k_5_237 hv_Ck_passed rfl rfl ⟨(Nat.le_of_ble_eq_true rfl), (Nat.le_of_ble_eq_true rfl)⟩ rfl (Nat.le_of_ble_eq_true rfl) ⟨Nat.zero_le _, Nat.zero_le _⟩ rfl d_SJ_validate_14 (fun H locs hP hS => ?_)
    refine lv_if_ne (tgt := 30) hx hb d_SJ_validate_17 (by decide) (fun c2 => ?_) (fun c2 => ?_)
    · replace h := o_ff c2 h
      refine lv_aload_n hx hb d_SJ_validate_30 rfl (lv_at hl 0 rfl) ?_
      refine o_get (v := .ref (ad 49)) C in_SJ hP 0 cw_0 rfl 6 (by decide) k_2_117 rfl rfl d_SJ_validate_31 ?_
      obtain ⟨q3, hq3, h⟩ := o_bd_some h
      refine o_V (st1 := []) (w1 := (o_cw ad ca rt Sj T0 T1 Rd Pg Pt Mk Lk Ck q3.2 Ld q3.1)) hE.1 C (c_Jd_begin hE l Pr Jd Sj T0 T1 Rd Pg Pt Mk Lk Ck Ld rt hq3) hP (hDD _ _ _ _ _ _ _ _ _ _ _ _ _) hS hl.1 rfl cw_49 k_5_239 k_6_0 k_6_1 k_1_9 k_6_2 hv_Jd_begin rfl rfl ⟨(Nat.le_of_ble_eq_true rfl), (Nat.le_of_ble_eq_true rfl)⟩ rfl (Nat.le_of_ble_eq_true rfl) ⟨Nat.zero_le _, Nat.zero_le _⟩ rfl d_SJ_validate_34 (fun H locs hP hS => ?_)
      refine lv_aload_n hx hb d_SJ_validate_37 rfl (lv_at hl 0 rfl) ?_
      refine o_get (v := .ref (ad 49)) C in_SJ hP 0 cw_0 rfl 6 (by decide) k_2_117 rfl rfl d_SJ_validate_38 ?_
      refine lv_iconst (v := (0:Int32)) hx hb d_SJ_validate_41 (by decide) ?_
      refine lv_iconst (v := (0:Int32)) hx hb d_SJ_validate_42 (by decide) ?_
      refine lv_iconst (v := (1:Int32)) hx hb d_SJ_validate_43 (by decide) ?_
      obtain ⟨q4, hq4, h⟩ := o_bd_some h
      refine o_V (st1 := [.int q4.1]) (w1 := (o_cw ad ca rt Sj T0 T1 Rd q4.2.1 q4.2.2.1 Mk Lk Ck q4.2.2.2.2.2 q4.2.2.2.1 q4.2.2.2.2.1)) hE.1 C (c_Jd_evaluate hE l n 102 (0:Int32) (0:Int32) (1:Int32) T0 T1 Pg Pt Mk Ld q3.1 q3.2 Sj Rd Lk Ck rt hq4) hP (hDD _ _ _ _ _ _ _ _ _ _ _ _ _) hS hl.1 rfl cw_49 k_6_7 k_6_8 k_6_9 k_1_9 k_6_10 hv_Jd_evaluate rfl rfl ⟨(Nat.le_of_ble_eq_true rfl), (Nat.le_of_ble_eq_true rfl)⟩ rfl (Nat.le_of_ble_eq_true rfl) ⟨Nat.zero_le _, Nat.zero_le _⟩ rfl d_SJ_validate_44 (fun H locs hP hS => ?_)
      refine lv_istore_n (lv' := [(1, .int q4.1), (0, .ref (ad 0))]) hx hb d_SJ_validate_47 rfl hl (by decide) rfl (fun ls hl => ?_)
      refine lv_aload_n hx hb d_SJ_validate_48 rfl (lv_at hl 1 rfl) ?_
      refine o_get (v := .ref (ad 49)) C in_SJ hP 0 cw_0 rfl 6 (by decide) k_2_117 rfl rfl d_SJ_validate_49 ?_
      obtain ⟨q5, hq5, h⟩ := o_bd_some h
      refine o_V (st1 := []) (w1 := (o_cw ad ca rt Sj T0 T1 Rd q4.2.1 q4.2.2.1 Mk Lk Ck q4.2.2.2.2.2 q4.2.2.2.1 q5)) hE.1 C (c_Jd_finish hE l n q4.2.2.2.2.1 q4.2.2.2.2.2 Sj T0 T1 Rd q4.2.1 q4.2.2.1 Mk Lk Ck q4.2.2.2.1 rt hq5) hP (hDD _ _ _ _ _ _ _ _ _ _ _ _ _) hS hl.1 rfl cw_49 k_6_230 k_6_231 k_6_232 k_1_9 k_6_233 hv_Jd_finish rfl rfl ⟨(Nat.le_of_ble_eq_true rfl), (Nat.le_of_ble_eq_true rfl)⟩ rfl (Nat.le_of_ble_eq_true rfl) ⟨Nat.zero_le _, Nat.zero_le _⟩ rfl d_SJ_validate_52 (fun H locs hP hS => ?_)
      refine lv_aload_n hx hb d_SJ_validate_55 rfl (lv_at hl 1 rfl) ?_
      refine o_get (v := .ref (ad 49)) C in_SJ hP 0 cw_0 rfl 6 (by decide) k_2_117 rfl rfl d_SJ_validate_56 ?_
      obtain ⟨q6, hq6, h⟩ := o_bd_some h
      refine o_V (st1 := [.int q6]) (w1 := (o_cw ad ca rt Sj T0 T1 Rd q4.2.1 q4.2.2.1 Mk Lk Ck q4.2.2.2.2.2 q4.2.2.2.1 q5)) hE.1 C (c_Jd_isOver hE l q4.2.2.2.2.2 Sj T0 T1 Rd q4.2.1 q4.2.2.1 Mk Lk Ck q4.2.2.2.1 q5 rt hq6) hP (hDD _ _ _ _ _ _ _ _ _ _ _ _ _) hS hl.1 rfl cw_49 k_6_238 k_6_239 k_7_0 k_1_9 k_7_1 hv_Jd_isOver rfl rfl ⟨(Nat.le_of_ble_eq_true rfl), (Nat.le_of_ble_eq_true rfl)⟩ rfl (Nat.le_of_ble_eq_true rfl) ⟨Nat.zero_le _, Nat.zero_le _⟩ rfl d_SJ_validate_59 (fun H locs hP hS => ?_)
      refine lv_if_eq (tgt := 75) hx hb d_SJ_validate_62 (by decide) (fun c3 => ?_) (fun c3 => ?_)
      · replace h := o_tt c3 h
        refine lv_iload_n hx hb d_SJ_validate_75 rfl (lv_at hl 0 rfl) ?_
        obtain ⟨g4, h⟩ := o_gd_some h
        cases h
        exact o_ret0 (o_rz C (o_zb_nar g4) hP hS d_SJ_validate_76)
      · replace h := o_ff c3 h
        cases h
        exact o_thr (tx := "too many schemas, or too deep") (msg := sd 18) hE.1 hT htr hne C (by decide +kernel) fit_n at_JV k_7_2 k_7_3 k_1_31 (fun A U H h9 => hE.2.2.2.2.2.1 A U H h9 ("SchemaJudge", 136, "too many schemas, or too deep", 18) (List.mem_of_getElem? (i := 26) rfl)) hP hS hl.1 (show o_exn 4 = _ from rfl) (show (4 : Nat) ≠ 0 by decide) (Nat.le_of_ble_eq_true rfl) (Nat.le_of_ble_eq_true rfl) (Nat.le_of_ble_eq_true rfl) (Nat.le_of_ble_eq_true rfl) d_SJ_validate_65 d_SJ_validate_68 d_SJ_validate_69 d_SJ_validate_71 d_SJ_validate_74
    · replace h := o_tt c2 h
      exact w_SJ_validate_j20 hE C hDD hT htr hne n T0 T1 Pg Pt Mk Ck Ld Pr Jd Sj Rd Lk rt h _ _ _ hP hS (lv_sub hl [] rfl)
set_option maxHeartbeats 4000000 in
set_option maxRecDepth 100000 in
theorem w_SJ_pair_j15 {E : (Nat → Prop) → State → Heap → Prop} {p : Program} {l : Launch} {e : Env} {s : State} {m : MethodId} {args : Array Value} {below : List Frame} {meth : Method} {c : Code} {D : va_G} {ad kd sd vd xd : Nat → Nat} {ca : Nat → ClassId} {A : Nat → Prop} (hE : o_EK E kd sd vd xd) (C : o_Cx E p s m args meth c D o_cls (o_tys ca) "SchemaJudge" b_SJ_pair (some .int) 3 cc_SJ_pair A) (hDD : ∀ (rt : Nat) (Sj : SSJ) (T0 : STx) (T1 : STx) (Rd : SRd) (Pg : SPg) (Pt : SPt) (Mk : SMk) (Lk : SLk) (Ck : SCk) (Jd : SJd) (Ld : SLd) (Pr : SPr), va_D A (o_cw ad ca rt Sj T0 T1 Rd Pg Pt Mk Lk Ck Jd Ld Pr)) (hT : o_ET E) (htr : e.platform.stackTraces = false) (hne : c.exceptionTable.isEmpty = true)  (Pr : SPr) (Sj : SSJ) (T0 : STx) (T1 : STx) (Rd : SRd) (Pg : SPg) (Pt : SPt) (Mk : SMk) (Lk : SLk) (Ck : SCk) (Jd : SJd) (Ld : SLd) (rt : Nat) {r : Nat × Int32} (h : m_SJ_pair_j15 Pr = some r) : o_At p l e rm_SJ_pair s m args below meth c (o_MQT below (o_Qt D o_cls r.1 (some (.int r.2)) (o_cw ad ca rt Sj T0 T1 Rd Pg Pt Mk Lk Ck Jd Ld Pr) A) args s 1 6 A) o_cls D A 3 15 [] (o_cw ad ca rt Sj T0 T1 Rd Pg Pt Mk Lk Ck Jd Ld Pr) [] := by
  unfold m_SJ_pair_j15 at h
  intro H locs ls hP hS hl
  have C0 := C
  obtain ⟨hx, hb, -, -, -, hown, hts, hK, -, -⟩ := C0
  cases h
  exact o_thr (tx := "no such pair") (msg := sd 19) hE.1 hT htr hne C (by decide +kernel) fit_n at_JI k_2_172 k_2_173 k_1_17 (fun A U H h9 => hE.2.2.2.2.2.1 A U H h9 ("SchemaJudge", 142, "no such pair", 19) (List.mem_of_getElem? (i := 27) rfl)) hP hS hl.1 (show o_exn 1 = _ from rfl) (show (1 : Nat) ≠ 0 by decide) (Nat.le_of_ble_eq_true rfl) (Nat.le_of_ble_eq_true rfl) (Nat.le_of_ble_eq_true rfl) (Nat.le_of_ble_eq_true rfl) d_SJ_pair_15 d_SJ_pair_18 d_SJ_pair_19 d_SJ_pair_21 d_SJ_pair_24
set_option maxHeartbeats 4000000 in
set_option maxRecDepth 100000 in
theorem c_SJ_pair {E : (Nat → Prop) → State → Heap → Prop} {D : va_G} {ad kd sd vd xd : Nat → Nat} {ca : Nat → ClassId} (hE : o_EK E kd sd vd xd) (hT : o_ET E) (l : Launch) (hfl : l.flags = pinnedFlags ++ [noTraceFlag]) (x1 : Int32) (x2 : Int32) (Pr : SPr) (Sj : SSJ) (T0 : STx) (T1 : STx) (Rd : SRd) (Pg : SPg) (Pt : SPt) (Mk : SMk) (Lk : SLk) (Ck : SCk) (Jd : SJd) (Ld : SLd) (rt : Nat) {r : Nat × Int32} (h : m_SJ_pair x1 x2 Pr = some r) : o_Ct E l D o_cls (o_tys ca) y_SJ_pair cc_SJ_pair rm_SJ_pair [.ref (ad 0), .int x1, .int x2] (o_cw ad ca rt Sj T0 T1 Rd Pg Pt Mk Lk Ck Jd Ld Pr) (o_cw ad ca rt Sj T0 T1 Rd Pg Pt Mk Lk Ck Jd Ld Pr) r.1 (some (.int r.2)) := by
  refine o_Ct_of hfl (by decide) (Nat.le_of_ble_eq_true rfl) ?_
  intro p e s m below meth c A ls htr hne C hD hP hS hl
  have hDD : ∀ (rt : Nat) (Sj : SSJ) (T0 : STx) (T1 : STx) (Rd : SRd) (Pg : SPg) (Pt : SPt) (Mk : SMk) (Lk : SLk) (Ck : SCk) (Jd : SJd) (Ld : SLd) (Pr : SPr), va_D A (o_cw ad ca rt Sj T0 T1 Rd Pg Pt Mk Lk Ck Jd Ld Pr) := fun _ _ _ _ _ _ _ _ _ _ _ _ _ => o_D_map hD rfl
  have hl : lv_has ls 3 [(0, .ref (ad 0)), (1, .int x1), (2, .int x2)] := hl
  unfold m_SJ_pair at h
  have C0 := C
  obtain ⟨hx, hb, -, -, -, hown, hts, hK, -, -⟩ := C0
  refine lv_iload_n hx hb d_SJ_pair_0 rfl (lv_at hl 1 rfl) ?_
  refine lv_if_lt (tgt := 15) hx hb d_SJ_pair_1 (by decide) (fun c1 => ?_) (fun c1 => ?_)
  · replace h := o_tt c1 h
    exact w_SJ_pair_j15 hE C hDD hT htr hne Pr Sj T0 T1 Rd Pg Pt Mk Lk Ck Jd Ld rt h _ _ _ hP hS (lv_sub hl [] rfl)
  · replace h := o_ff c1 h
    refine lv_iload_n hx hb d_SJ_pair_4 rfl (lv_at hl 1 rfl) ?_
    refine lv_aload_n hx hb d_SJ_pair_5 rfl (lv_at hl 0 rfl) ?_
    refine o_get (v := .ref (ad 49)) C in_SJ hP 0 cw_0 rfl 6 (by decide) k_2_117 rfl rfl d_SJ_pair_6 ?_
    obtain ⟨q1, hq1, h⟩ := o_bd_some h
    refine o_V (st1 := [.int q1, .int x1]) (w1 := (o_cw ad ca rt Sj T0 T1 Rd Pg Pt Mk Lk Ck Jd Ld Pr)) hE.1 C (c_Jd_pairsKept hE l Pr Sj T0 T1 Rd Pg Pt Mk Lk Ck Jd Ld rt hq1) hP (hDD _ _ _ _ _ _ _ _ _ _ _ _ _) hS hl.1 rfl cw_49 k_2_152 k_2_153 k_2_154 k_1_9 k_2_155 hv_Jd_pairsKept rfl rfl ⟨(Nat.le_of_ble_eq_true rfl), (Nat.le_of_ble_eq_true rfl)⟩ rfl (Nat.le_of_ble_eq_true rfl) ⟨Nat.zero_le _, Nat.zero_le _⟩ rfl d_SJ_pair_9 (fun H locs hP hS => ?_)
    refine lv_icmp_lt (tgt := 25) hx hb d_SJ_pair_12 (by decide) (fun c2 => ?_) (fun c2 => ?_)
    · replace h := o_tt c2 h
      refine lv_aload_n hx hb d_SJ_pair_25 rfl (lv_at hl 0 rfl) ?_
      refine o_get (v := .ref (ad 49)) C in_SJ hP 0 cw_0 rfl 6 (by decide) k_2_117 rfl rfl d_SJ_pair_26 ?_
      refine lv_iload_n hx hb d_SJ_pair_29 rfl (lv_at hl 1 rfl) ?_
      refine lv_iload_n hx hb d_SJ_pair_30 rfl (lv_at hl 2 rfl) ?_
      obtain ⟨q2, hq2, h⟩ := o_bd_some h
      refine o_V (st1 := [.int q2]) (w1 := (o_cw ad ca rt Sj T0 T1 Rd Pg Pt Mk Lk Ck Jd Ld Pr)) hE.1 C (c_Jd_pairAt hE l x1 x2 Pr Sj T0 T1 Rd Pg Pt Mk Lk Ck Jd Ld rt hq2) hP (hDD _ _ _ _ _ _ _ _ _ _ _ _ _) hS hl.1 rfl cw_49 k_7_26 k_7_27 k_7_28 k_1_9 k_7_29 hv_Jd_pairAt rfl rfl ⟨(Nat.le_of_ble_eq_true rfl), (Nat.le_of_ble_eq_true rfl)⟩ rfl (Nat.le_of_ble_eq_true rfl) ⟨Nat.zero_le _, Nat.zero_le _⟩ rfl d_SJ_pair_31 (fun H locs hP hS => ?_)
      cases h
      exact o_ret0 (o_ri C hP hS d_SJ_pair_34)
    · replace h := o_ff c2 h
      exact w_SJ_pair_j15 hE C hDD hT htr hne Pr Sj T0 T1 Rd Pg Pt Mk Lk Ck Jd Ld rt h _ _ _ hP hS (lv_sub hl [] rfl)
set_option maxHeartbeats 4000000 in
set_option maxRecDepth 100000 in
theorem w_SJ_value_j9 {E : (Nat → Prop) → State → Heap → Prop} {p : Program} {l : Launch} {e : Env} {s : State} {m : MethodId} {args : Array Value} {below : List Frame} {meth : Method} {c : Code} {D : va_G} {ad kd sd vd xd : Nat → Nat} {ca : Nat → ClassId} {A : Nat → Prop} (hE : o_EK E kd sd vd xd) (C : o_Cx E p s m args meth c D o_cls (o_tys ca) "SchemaJudge" b_SJ_value (some .int) 5 cc_SJ_value A) (hDD : ∀ (rt : Nat) (Sj : SSJ) (T0 : STx) (T1 : STx) (Rd : SRd) (Pg : SPg) (Pt : SPt) (Mk : SMk) (Lk : SLk) (Ck : SCk) (Jd : SJd) (Ld : SLd) (Pr : SPr), va_D A (o_cw ad ca rt Sj T0 T1 Rd Pg Pt Mk Lk Ck Jd Ld Pr)) (hT : o_ET E) (htr : e.platform.stackTraces = false) (hne : c.exceptionTable.isEmpty = true)  (T0 : STx) (T1 : STx) (Sj : SSJ) (Rd : SRd) (Pg : SPg) (Pt : SPt) (Mk : SMk) (Lk : SLk) (Ck : SCk) (Jd : SJd) (Ld : SLd) (Pr : SPr) (rt : Nat) {r : Nat × Int32} (h : m_SJ_value_j9 T0 T1 = some r) : o_At p l e rm_SJ_value s m args below meth c (o_MQT below (o_Qt D o_cls r.1 (some (.int r.2)) (o_cw ad ca rt Sj T0 T1 Rd Pg Pt Mk Lk Ck Jd Ld Pr) A) args s 1 6 A) o_cls D A 5 9 [] (o_cw ad ca rt Sj T0 T1 Rd Pg Pt Mk Lk Ck Jd Ld Pr) [] := by
  unfold m_SJ_value_j9 at h
  intro H locs ls hP hS hl
  have C0 := C
  obtain ⟨hx, hb, -, -, -, hown, hts, hK, -, -⟩ := C0
  cases h
  exact o_thr (tx := "no such question") (msg := sd 20) hE.1 hT htr hne C (by decide +kernel) fit_n at_JG k_3_229 k_3_230 k_1_22 (fun A U H h9 => hE.2.2.2.2.2.1 A U H h9 ("SchemaJudge", 148, "no such question", 20) (List.mem_of_getElem? (i := 28) rfl)) hP hS hl.1 (show o_exn 2 = _ from rfl) (show (2 : Nat) ≠ 0 by decide) (Nat.le_of_ble_eq_true rfl) (Nat.le_of_ble_eq_true rfl) (Nat.le_of_ble_eq_true rfl) (Nat.le_of_ble_eq_true rfl) d_SJ_value_9 d_SJ_value_12 d_SJ_value_13 d_SJ_value_15 d_SJ_value_18
set_option maxHeartbeats 4000000 in
set_option maxRecDepth 100000 in
theorem w_SJ_value_j34 {E : (Nat → Prop) → State → Heap → Prop} {p : Program} {l : Launch} {e : Env} {s : State} {m : MethodId} {args : Array Value} {below : List Frame} {meth : Method} {c : Code} {D : va_G} {ad kd sd vd xd : Nat → Nat} {ca : Nat → ClassId} {A : Nat → Prop} (hE : o_EK E kd sd vd xd) (C : o_Cx E p s m args meth c D o_cls (o_tys ca) "SchemaJudge" b_SJ_value (some .int) 5 cc_SJ_value A) (hDD : ∀ (rt : Nat) (Sj : SSJ) (T0 : STx) (T1 : STx) (Rd : SRd) (Pg : SPg) (Pt : SPt) (Mk : SMk) (Lk : SLk) (Ck : SCk) (Jd : SJd) (Ld : SLd) (Pr : SPr), va_D A (o_cw ad ca rt Sj T0 T1 Rd Pg Pt Mk Lk Ck Jd Ld Pr)) (hT : o_ET E) (htr : e.platform.stackTraces = false) (hne : c.exceptionTable.isEmpty = true) (x2 : Int32) (x3 : Int32) (T0 : STx) (T1 : STx) (Sj : SSJ) (Rd : SRd) (Pg : SPg) (Pt : SPt) (Mk : SMk) (Lk : SLk) (Ck : SCk) (Jd : SJd) (Ld : SLd) (Pr : SPr) (rt : Nat) {r : Nat × Int32} (h : m_SJ_value_j34 x2 x3 T0 T1 = some r) : o_At p l e rm_SJ_value s m args below meth c (o_MQT below (o_Qt D o_cls r.1 (some (.int r.2)) (o_cw ad ca rt Sj T0 T1 Rd Pg Pt Mk Lk Ck Jd Ld Pr) A) args s 1 6 A) o_cls D A 5 34 [.ref (ad 12)] (o_cw ad ca rt Sj T0 T1 Rd Pg Pt Mk Lk Ck Jd Ld Pr) [(2, .int x2), (3, .int x3)] := by
  unfold m_SJ_value_j34 at h
  intro H locs ls hP hS hl
  have C0 := C
  obtain ⟨hx, hb, -, -, -, hown, hts, hK, -, -⟩ := C0
  refine lv_astore (lv' := [(4, .ref (ad 12)), (2, .int x2), (3, .int x3)]) hx hb d_SJ_value_34 hl (by decide) rfl (fun ls hl => ?_)
  refine lv_aload hx hb d_SJ_value_36 (lv_at hl 0 rfl) ?_
  refine lv_iload_n hx hb d_SJ_value_38 rfl (lv_at hl 1 rfl) ?_
  obtain ⟨q1, hq1, h⟩ := o_bd_some h
  refine o_V (st1 := [.int q1]) (w1 := (o_cw ad ca rt Sj T0 T1 Rd Pg Pt Mk Lk Ck Jd Ld Pr)) hE.1 C (c_Tx_has_1 hE l x2 T1 Sj T0 Rd Pg Pt Mk Lk Ck Jd Ld Pr rt hq1) hP (hDD _ _ _ _ _ _ _ _ _ _ _ _ _) hS hl.1 rfl cw_12 k_7_42 k_7_43 k_7_44 k_1_2 k_7_45 hv_Tx_has rfl rfl ⟨(Nat.le_of_ble_eq_true rfl), (Nat.le_of_ble_eq_true rfl)⟩ rfl (Nat.le_of_ble_eq_true rfl) ⟨Nat.zero_le _, Nat.zero_le _⟩ rfl d_SJ_value_39 (fun H locs hP hS => ?_)
  refine lv_if_ne (tgt := 55) hx hb d_SJ_value_42 (by decide) (fun c4 => ?_) (fun c4 => ?_)
  · replace h := o_ff c4 h
    refine lv_iload_n hx hb d_SJ_value_55 rfl (lv_at hl 2 rfl) ?_
    by_cases c5 : x3 = (0:Int32)
    · replace h := o_tt c5 h
      refine lv_tableIn (off := 32) (tgt := 88) hx hb d_SJ_value_56 (by rw [c5]; decide) (by rw [c5]; decide) (by rw [c5]; rfl) (by decide) ?_
      refine lv_aload hx hb d_SJ_value_88 (lv_at hl 0 rfl) ?_
      refine lv_iload_n hx hb d_SJ_value_90 rfl (lv_at hl 1 rfl) ?_
      obtain ⟨q2, hq2, h⟩ := o_bd_some h
      refine o_V (st1 := [.int q2]) (w1 := (o_cw ad ca rt Sj T0 T1 Rd Pg Pt Mk Lk Ck Jd Ld Pr)) hE.1 C (c_Tx_kind_1 hE l x2 T1 Sj T0 Rd Pg Pt Mk Lk Ck Jd Ld Pr rt hq2) hP (hDD _ _ _ _ _ _ _ _ _ _ _ _ _) hS hl.1 rfl cw_12 k_7_47 k_4_50 k_4_51 k_1_2 k_4_52 hv_Tx_kind rfl rfl ⟨(Nat.le_of_ble_eq_true rfl), (Nat.le_of_ble_eq_true rfl)⟩ rfl (Nat.le_of_ble_eq_true rfl) ⟨Nat.zero_le _, Nat.zero_le _⟩ rfl d_SJ_value_91 (fun H locs hP hS => ?_)
      cases h
      exact o_ret0 (o_ri C hP hS d_SJ_value_94)
    replace h := o_ff c5 h
    by_cases c6 : x3 = (1:Int32)
    · replace h := o_tt c6 h
      refine lv_tableIn (off := 39) (tgt := 95) hx hb d_SJ_value_56 (by rw [c6]; decide) (by rw [c6]; decide) (by rw [c6]; rfl) (by decide) ?_
      refine lv_aload hx hb d_SJ_value_95 (lv_at hl 0 rfl) ?_
      refine lv_iload_n hx hb d_SJ_value_97 rfl (lv_at hl 1 rfl) ?_
      obtain ⟨q3, hq3, h⟩ := o_bd_some h
      refine o_V (st1 := [.int q3]) (w1 := (o_cw ad ca rt Sj T0 T1 Rd Pg Pt Mk Lk Ck Jd Ld Pr)) hE.1 C (c_Tx_place_1 hE l x2 T1 Sj T0 Rd Pg Pt Mk Lk Ck Jd Ld Pr rt hq3) hP (hDD _ _ _ _ _ _ _ _ _ _ _ _ _) hS hl.1 rfl cw_12 k_7_48 k_3_226 k_3_227 k_1_2 k_3_228 hv_Tx_place rfl rfl ⟨(Nat.le_of_ble_eq_true rfl), (Nat.le_of_ble_eq_true rfl)⟩ rfl (Nat.le_of_ble_eq_true rfl) ⟨Nat.zero_le _, Nat.zero_le _⟩ rfl d_SJ_value_98 (fun H locs hP hS => ?_)
      cases h
      exact o_ret0 (o_ri C hP hS d_SJ_value_101)
    replace h := o_ff c6 h
    by_cases c7 : x3 = (2:Int32)
    · replace h := o_tt c7 h
      refine lv_tableIn (off := 46) (tgt := 102) hx hb d_SJ_value_56 (by rw [c7]; decide) (by rw [c7]; decide) (by rw [c7]; rfl) (by decide) ?_
      refine lv_aload hx hb d_SJ_value_102 (lv_at hl 0 rfl) ?_
      refine lv_iload_n hx hb d_SJ_value_104 rfl (lv_at hl 1 rfl) ?_
      obtain ⟨q4, hq4, h⟩ := o_bd_some h
      refine o_V (st1 := [.int q4]) (w1 := (o_cw ad ca rt Sj T0 T1 Rd Pg Pt Mk Lk Ck Jd Ld Pr)) hE.1 C (c_Tx_size_1 hE l x2 T1 Sj T0 Rd Pg Pt Mk Lk Ck Jd Ld Pr rt hq4) hP (hDD _ _ _ _ _ _ _ _ _ _ _ _ _) hS hl.1 rfl cw_12 k_7_49 k_3_215 k_3_216 k_1_2 k_3_217 hv_Tx_size rfl rfl ⟨(Nat.le_of_ble_eq_true rfl), (Nat.le_of_ble_eq_true rfl)⟩ rfl (Nat.le_of_ble_eq_true rfl) ⟨Nat.zero_le _, Nat.zero_le _⟩ rfl d_SJ_value_105 (fun H locs hP hS => ?_)
      cases h
      exact o_ret0 (o_ri C hP hS d_SJ_value_108)
    replace h := o_ff c7 h
    by_cases c8 : x3 = (3:Int32)
    · replace h := o_tt c8 h
      refine lv_tableIn (off := 53) (tgt := 109) hx hb d_SJ_value_56 (by rw [c8]; decide) (by rw [c8]; decide) (by rw [c8]; rfl) (by decide) ?_
      refine lv_aload hx hb d_SJ_value_109 (lv_at hl 0 rfl) ?_
      refine lv_iload_n hx hb d_SJ_value_111 rfl (lv_at hl 1 rfl) ?_
      obtain ⟨q5, hq5, h⟩ := o_bd_some h
      refine o_V (st1 := [.int q5]) (w1 := (o_cw ad ca rt Sj T0 T1 Rd Pg Pt Mk Lk Ck Jd Ld Pr)) hE.1 C (c_Tx_parent_1 hE l x2 T1 Sj T0 Rd Pg Pt Mk Lk Ck Jd Ld Pr rt hq5) hP (hDD _ _ _ _ _ _ _ _ _ _ _ _ _) hS hl.1 rfl cw_12 k_7_50 k_5_196 k_5_197 k_1_2 k_5_198 hv_Tx_parent rfl rfl ⟨(Nat.le_of_ble_eq_true rfl), (Nat.le_of_ble_eq_true rfl)⟩ rfl (Nat.le_of_ble_eq_true rfl) ⟨Nat.zero_le _, Nat.zero_le _⟩ rfl d_SJ_value_112 (fun H locs hP hS => ?_)
      cases h
      exact o_ret0 (o_ri C hP hS d_SJ_value_115)
    replace h := o_ff c8 h
    refine lv_tableOut (tgt := 116) hx hb d_SJ_value_56 (by have ec5 := o_ne_i (n := 0) (by decide) c5; have ec6 := o_ne_i (n := 1) (by decide) c6; have ec7 := o_ne_i (n := 2) (by decide) c7; have ec8 := o_ne_i (n := 3) (by decide) c8; omega) (by decide) ?_
    refine lv_aload hx hb d_SJ_value_116 (lv_at hl 0 rfl) ?_
    refine lv_iload_n hx hb d_SJ_value_118 rfl (lv_at hl 1 rfl) ?_
    obtain ⟨q6, hq6, h⟩ := o_bd_some h
    refine o_V (st1 := [.int q6]) (w1 := (o_cw ad ca rt Sj T0 T1 Rd Pg Pt Mk Lk Ck Jd Ld Pr)) hE.1 C (c_Tx_exponent_1 hE l x2 T1 Sj T0 Rd Pg Pt Mk Lk Ck Jd Ld Pr rt hq6) hP (hDD _ _ _ _ _ _ _ _ _ _ _ _ _) hS hl.1 rfl cw_12 k_7_51 k_5_67 k_5_68 k_1_2 k_5_69 hv_Tx_exponent rfl rfl ⟨(Nat.le_of_ble_eq_true rfl), (Nat.le_of_ble_eq_true rfl)⟩ rfl (Nat.le_of_ble_eq_true rfl) ⟨Nat.zero_le _, Nat.zero_le _⟩ rfl d_SJ_value_119 (fun H locs hP hS => ?_)
    cases h
    exact o_ret0 (o_ri C hP hS d_SJ_value_122)
  · replace h := o_tt c4 h
    cases h
    exact o_thr (tx := "no such value") (msg := sd 21) hE.1 hT htr hne C (by decide +kernel) fit_n at_JI k_2_172 k_2_173 k_1_17 (fun A U H h9 => hE.2.2.2.2.2.1 A U H h9 ("SchemaJudge", 154, "no such value", 21) (List.mem_of_getElem? (i := 29) rfl)) hP hS hl.1 (show o_exn 1 = _ from rfl) (show (1 : Nat) ≠ 0 by decide) (Nat.le_of_ble_eq_true rfl) (Nat.le_of_ble_eq_true rfl) (Nat.le_of_ble_eq_true rfl) (Nat.le_of_ble_eq_true rfl) d_SJ_value_45 d_SJ_value_48 d_SJ_value_49 d_SJ_value_51 d_SJ_value_54
set_option maxHeartbeats 4000000 in
set_option maxRecDepth 100000 in
theorem w_SJ_value_j34v7 {E : (Nat → Prop) → State → Heap → Prop} {p : Program} {l : Launch} {e : Env} {s : State} {m : MethodId} {args : Array Value} {below : List Frame} {meth : Method} {c : Code} {D : va_G} {ad kd sd vd xd : Nat → Nat} {ca : Nat → ClassId} {A : Nat → Prop} (hE : o_EK E kd sd vd xd) (C : o_Cx E p s m args meth c D o_cls (o_tys ca) "SchemaJudge" b_SJ_value (some .int) 5 cc_SJ_value A) (hDD : ∀ (rt : Nat) (Sj : SSJ) (T0 : STx) (T1 : STx) (Rd : SRd) (Pg : SPg) (Pt : SPt) (Mk : SMk) (Lk : SLk) (Ck : SCk) (Jd : SJd) (Ld : SLd) (Pr : SPr), va_D A (o_cw ad ca rt Sj T0 T1 Rd Pg Pt Mk Lk Ck Jd Ld Pr)) (hT : o_ET E) (htr : e.platform.stackTraces = false) (hne : c.exceptionTable.isEmpty = true) (x2 : Int32) (x3 : Int32) (T0 : STx) (T1 : STx) (Sj : SSJ) (Rd : SRd) (Pg : SPg) (Pt : SPt) (Mk : SMk) (Lk : SLk) (Ck : SCk) (Jd : SJd) (Ld : SLd) (Pr : SPr) (rt : Nat) {r : Nat × Int32} (h : m_SJ_value_j34v7 x2 x3 T0 T1 = some r) : o_At p l e rm_SJ_value s m args below meth c (o_MQT below (o_Qt D o_cls r.1 (some (.int r.2)) (o_cw ad ca rt Sj T0 T1 Rd Pg Pt Mk Lk Ck Jd Ld Pr) A) args s 1 6 A) o_cls D A 5 34 [.ref (ad 1)] (o_cw ad ca rt Sj T0 T1 Rd Pg Pt Mk Lk Ck Jd Ld Pr) [(2, .int x2), (3, .int x3)] := by
  unfold m_SJ_value_j34v7 at h
  intro H locs ls hP hS hl
  have C0 := C
  obtain ⟨hx, hb, -, -, -, hown, hts, hK, -, -⟩ := C0
  refine lv_astore (lv' := [(4, .ref (ad 1)), (2, .int x2), (3, .int x3)]) hx hb d_SJ_value_34 hl (by decide) rfl (fun ls hl => ?_)
  refine lv_aload hx hb d_SJ_value_36 (lv_at hl 0 rfl) ?_
  refine lv_iload_n hx hb d_SJ_value_38 rfl (lv_at hl 1 rfl) ?_
  obtain ⟨q7, hq7, h⟩ := o_bd_some h
  refine o_V (st1 := [.int q7]) (w1 := (o_cw ad ca rt Sj T0 T1 Rd Pg Pt Mk Lk Ck Jd Ld Pr)) hE.1 C (c_Tx_has_0 hE l x2 T0 Sj T1 Rd Pg Pt Mk Lk Ck Jd Ld Pr rt hq7) hP (hDD _ _ _ _ _ _ _ _ _ _ _ _ _) hS hl.1 rfl cw_1 k_7_42 k_7_43 k_7_44 k_1_2 k_7_45 hv_Tx_has rfl rfl ⟨(Nat.le_of_ble_eq_true rfl), (Nat.le_of_ble_eq_true rfl)⟩ rfl (Nat.le_of_ble_eq_true rfl) ⟨Nat.zero_le _, Nat.zero_le _⟩ rfl d_SJ_value_39 (fun H locs hP hS => ?_)
  refine lv_if_ne (tgt := 55) hx hb d_SJ_value_42 (by decide) (fun c9 => ?_) (fun c9 => ?_)
  · replace h := o_ff c9 h
    refine lv_iload_n hx hb d_SJ_value_55 rfl (lv_at hl 2 rfl) ?_
    by_cases c10 : x3 = (0:Int32)
    · replace h := o_tt c10 h
      refine lv_tableIn (off := 32) (tgt := 88) hx hb d_SJ_value_56 (by rw [c10]; decide) (by rw [c10]; decide) (by rw [c10]; rfl) (by decide) ?_
      refine lv_aload hx hb d_SJ_value_88 (lv_at hl 0 rfl) ?_
      refine lv_iload_n hx hb d_SJ_value_90 rfl (lv_at hl 1 rfl) ?_
      obtain ⟨q8, hq8, h⟩ := o_bd_some h
      refine o_V (st1 := [.int q8]) (w1 := (o_cw ad ca rt Sj T0 T1 Rd Pg Pt Mk Lk Ck Jd Ld Pr)) hE.1 C (c_Tx_kind_0 hE l x2 T0 Sj T1 Rd Pg Pt Mk Lk Ck Jd Ld Pr rt hq8) hP (hDD _ _ _ _ _ _ _ _ _ _ _ _ _) hS hl.1 rfl cw_1 k_7_47 k_4_50 k_4_51 k_1_2 k_4_52 hv_Tx_kind rfl rfl ⟨(Nat.le_of_ble_eq_true rfl), (Nat.le_of_ble_eq_true rfl)⟩ rfl (Nat.le_of_ble_eq_true rfl) ⟨Nat.zero_le _, Nat.zero_le _⟩ rfl d_SJ_value_91 (fun H locs hP hS => ?_)
      cases h
      exact o_ret0 (o_ri C hP hS d_SJ_value_94)
    replace h := o_ff c10 h
    by_cases c11 : x3 = (1:Int32)
    · replace h := o_tt c11 h
      refine lv_tableIn (off := 39) (tgt := 95) hx hb d_SJ_value_56 (by rw [c11]; decide) (by rw [c11]; decide) (by rw [c11]; rfl) (by decide) ?_
      refine lv_aload hx hb d_SJ_value_95 (lv_at hl 0 rfl) ?_
      refine lv_iload_n hx hb d_SJ_value_97 rfl (lv_at hl 1 rfl) ?_
      obtain ⟨q9, hq9, h⟩ := o_bd_some h
      refine o_V (st1 := [.int q9]) (w1 := (o_cw ad ca rt Sj T0 T1 Rd Pg Pt Mk Lk Ck Jd Ld Pr)) hE.1 C (c_Tx_place_0 hE l x2 T0 Sj T1 Rd Pg Pt Mk Lk Ck Jd Ld Pr rt hq9) hP (hDD _ _ _ _ _ _ _ _ _ _ _ _ _) hS hl.1 rfl cw_1 k_7_48 k_3_226 k_3_227 k_1_2 k_3_228 hv_Tx_place rfl rfl ⟨(Nat.le_of_ble_eq_true rfl), (Nat.le_of_ble_eq_true rfl)⟩ rfl (Nat.le_of_ble_eq_true rfl) ⟨Nat.zero_le _, Nat.zero_le _⟩ rfl d_SJ_value_98 (fun H locs hP hS => ?_)
      cases h
      exact o_ret0 (o_ri C hP hS d_SJ_value_101)
    replace h := o_ff c11 h
    by_cases c12 : x3 = (2:Int32)
    · replace h := o_tt c12 h
      refine lv_tableIn (off := 46) (tgt := 102) hx hb d_SJ_value_56 (by rw [c12]; decide) (by rw [c12]; decide) (by rw [c12]; rfl) (by decide) ?_
      refine lv_aload hx hb d_SJ_value_102 (lv_at hl 0 rfl) ?_
      refine lv_iload_n hx hb d_SJ_value_104 rfl (lv_at hl 1 rfl) ?_
      obtain ⟨q10, hq10, h⟩ := o_bd_some h
      refine o_V (st1 := [.int q10]) (w1 := (o_cw ad ca rt Sj T0 T1 Rd Pg Pt Mk Lk Ck Jd Ld Pr)) hE.1 C (c_Tx_size_0 hE l x2 T0 Sj T1 Rd Pg Pt Mk Lk Ck Jd Ld Pr rt hq10) hP (hDD _ _ _ _ _ _ _ _ _ _ _ _ _) hS hl.1 rfl cw_1 k_7_49 k_3_215 k_3_216 k_1_2 k_3_217 hv_Tx_size rfl rfl ⟨(Nat.le_of_ble_eq_true rfl), (Nat.le_of_ble_eq_true rfl)⟩ rfl (Nat.le_of_ble_eq_true rfl) ⟨Nat.zero_le _, Nat.zero_le _⟩ rfl d_SJ_value_105 (fun H locs hP hS => ?_)
      cases h
      exact o_ret0 (o_ri C hP hS d_SJ_value_108)
    replace h := o_ff c12 h
    by_cases c13 : x3 = (3:Int32)
    · replace h := o_tt c13 h
      refine lv_tableIn (off := 53) (tgt := 109) hx hb d_SJ_value_56 (by rw [c13]; decide) (by rw [c13]; decide) (by rw [c13]; rfl) (by decide) ?_
      refine lv_aload hx hb d_SJ_value_109 (lv_at hl 0 rfl) ?_
      refine lv_iload_n hx hb d_SJ_value_111 rfl (lv_at hl 1 rfl) ?_
      obtain ⟨q11, hq11, h⟩ := o_bd_some h
      refine o_V (st1 := [.int q11]) (w1 := (o_cw ad ca rt Sj T0 T1 Rd Pg Pt Mk Lk Ck Jd Ld Pr)) hE.1 C (c_Tx_parent_0 hE l x2 T0 Sj T1 Rd Pg Pt Mk Lk Ck Jd Ld Pr rt hq11) hP (hDD _ _ _ _ _ _ _ _ _ _ _ _ _) hS hl.1 rfl cw_1 k_7_50 k_5_196 k_5_197 k_1_2 k_5_198 hv_Tx_parent rfl rfl ⟨(Nat.le_of_ble_eq_true rfl), (Nat.le_of_ble_eq_true rfl)⟩ rfl (Nat.le_of_ble_eq_true rfl) ⟨Nat.zero_le _, Nat.zero_le _⟩ rfl d_SJ_value_112 (fun H locs hP hS => ?_)
      cases h
      exact o_ret0 (o_ri C hP hS d_SJ_value_115)
    replace h := o_ff c13 h
    refine lv_tableOut (tgt := 116) hx hb d_SJ_value_56 (by have ec10 := o_ne_i (n := 0) (by decide) c10; have ec11 := o_ne_i (n := 1) (by decide) c11; have ec12 := o_ne_i (n := 2) (by decide) c12; have ec13 := o_ne_i (n := 3) (by decide) c13; omega) (by decide) ?_
    refine lv_aload hx hb d_SJ_value_116 (lv_at hl 0 rfl) ?_
    refine lv_iload_n hx hb d_SJ_value_118 rfl (lv_at hl 1 rfl) ?_
    obtain ⟨q12, hq12, h⟩ := o_bd_some h
    refine o_V (st1 := [.int q12]) (w1 := (o_cw ad ca rt Sj T0 T1 Rd Pg Pt Mk Lk Ck Jd Ld Pr)) hE.1 C (c_Tx_exponent_0 hE l x2 T0 Sj T1 Rd Pg Pt Mk Lk Ck Jd Ld Pr rt hq12) hP (hDD _ _ _ _ _ _ _ _ _ _ _ _ _) hS hl.1 rfl cw_1 k_7_51 k_5_67 k_5_68 k_1_2 k_5_69 hv_Tx_exponent rfl rfl ⟨(Nat.le_of_ble_eq_true rfl), (Nat.le_of_ble_eq_true rfl)⟩ rfl (Nat.le_of_ble_eq_true rfl) ⟨Nat.zero_le _, Nat.zero_le _⟩ rfl d_SJ_value_119 (fun H locs hP hS => ?_)
    cases h
    exact o_ret0 (o_ri C hP hS d_SJ_value_122)
  · replace h := o_tt c9 h
    cases h
    exact o_thr (tx := "no such value") (msg := sd 21) hE.1 hT htr hne C (by decide +kernel) fit_n at_JI k_2_172 k_2_173 k_1_17 (fun A U H h9 => hE.2.2.2.2.2.1 A U H h9 ("SchemaJudge", 154, "no such value", 21) (List.mem_of_getElem? (i := 29) rfl)) hP hS hl.1 (show o_exn 1 = _ from rfl) (show (1 : Nat) ≠ 0 by decide) (Nat.le_of_ble_eq_true rfl) (Nat.le_of_ble_eq_true rfl) (Nat.le_of_ble_eq_true rfl) (Nat.le_of_ble_eq_true rfl) d_SJ_value_45 d_SJ_value_48 d_SJ_value_49 d_SJ_value_51 d_SJ_value_54
set_option maxHeartbeats 4000000 in
set_option maxRecDepth 100000 in
theorem c_SJ_value {E : (Nat → Prop) → State → Heap → Prop} {D : va_G} {ad kd sd vd xd : Nat → Nat} {ca : Nat → ClassId} (hE : o_EK E kd sd vd xd) (hT : o_ET E) (l : Launch) (hfl : l.flags = pinnedFlags ++ [noTraceFlag]) (x1 : Int32) (x2 : Int32) (x3 : Int32) (T0 : STx) (T1 : STx) (Sj : SSJ) (Rd : SRd) (Pg : SPg) (Pt : SPt) (Mk : SMk) (Lk : SLk) (Ck : SCk) (Jd : SJd) (Ld : SLd) (Pr : SPr) (rt : Nat) {r : Nat × Int32} (h : m_SJ_value x1 x2 x3 T0 T1 = some r) : o_Ct E l D o_cls (o_tys ca) y_SJ_value cc_SJ_value rm_SJ_value [.ref (ad 0), .int x1, .int x2, .int x3] (o_cw ad ca rt Sj T0 T1 Rd Pg Pt Mk Lk Ck Jd Ld Pr) (o_cw ad ca rt Sj T0 T1 Rd Pg Pt Mk Lk Ck Jd Ld Pr) r.1 (some (.int r.2)) := by
  refine o_Ct_of hfl (by decide) (Nat.le_of_ble_eq_true rfl) ?_
  intro p e s m below meth c A ls htr hne C hD hP hS hl
  have hDD : ∀ (rt : Nat) (Sj : SSJ) (T0 : STx) (T1 : STx) (Rd : SRd) (Pg : SPg) (Pt : SPt) (Mk : SMk) (Lk : SLk) (Ck : SCk) (Jd : SJd) (Ld : SLd) (Pr : SPr), va_D A (o_cw ad ca rt Sj T0 T1 Rd Pg Pt Mk Lk Ck Jd Ld Pr) := fun _ _ _ _ _ _ _ _ _ _ _ _ _ => o_D_map hD rfl
  have hl : lv_has ls 5 [(0, .ref (ad 0)), (1, .int x1), (2, .int x2), (3, .int x3)] := hl
  unfold m_SJ_value at h
  have C0 := C
  obtain ⟨hx, hb, -, -, -, hown, hts, hK, -, -⟩ := C0
  refine lv_iload_n hx hb d_SJ_value_0 rfl (lv_at hl 3 rfl) ?_
  refine lv_if_lt (tgt := 9) hx hb d_SJ_value_1 (by decide) (fun c1 => ?_) (fun c1 => ?_)
  · replace h := o_tt c1 h
    exact w_SJ_value_j9 hE C hDD hT htr hne T0 T1 Sj Rd Pg Pt Mk Lk Ck Jd Ld Pr rt h _ _ _ hP hS (lv_sub hl [] rfl)
  · replace h := o_ff c1 h
    refine lv_iload_n hx hb d_SJ_value_4 rfl (lv_at hl 3 rfl) ?_
    refine lv_iconst (v := (4:Int32)) hx hb d_SJ_value_5 (by decide) ?_
    refine lv_icmp_le (tgt := 19) hx hb d_SJ_value_6 (by decide) (fun c2 => ?_) (fun c2 => ?_)
    · replace h := o_tt c2 h
      refine lv_iload_n hx hb d_SJ_value_19 rfl (lv_at hl 1 rfl) ?_
      refine lv_if_eq (tgt := 30) hx hb d_SJ_value_20 (by decide) (fun c3 => ?_) (fun c3 => ?_)
      · replace h := o_tt c3 h
        refine lv_aload_n hx hb d_SJ_value_30 rfl (lv_at hl 0 rfl) ?_
        refine o_get (v := .ref (ad 12)) C in_SJ hP 0 cw_0 rfl 1 (by decide) k_2_112 rfl rfl d_SJ_value_31 ?_
        exact w_SJ_value_j34 hE C hDD hT htr hne x2 x3 T0 T1 Sj Rd Pg Pt Mk Lk Ck Jd Ld Pr rt h _ _ _ hP hS (lv_sub hl [2, 3] rfl)
      · replace h := o_ff c3 h
        refine lv_aload_n hx hb d_SJ_value_23 rfl (lv_at hl 0 rfl) ?_
        refine o_get (v := .ref (ad 1)) C in_SJ hP 0 cw_0 rfl 0 (by decide) k_2_111 rfl rfl d_SJ_value_24 ?_
        refine lv_goto (tgt := 34) hx hb d_SJ_value_27 (by decide) ?_
        exact w_SJ_value_j34v7 hE C hDD hT htr hne x2 x3 T0 T1 Sj Rd Pg Pt Mk Lk Ck Jd Ld Pr rt h _ _ _ hP hS (lv_sub hl [2, 3] rfl)
    · replace h := o_ff c2 h
      exact w_SJ_value_j9 hE C hDD hT htr hne T0 T1 Sj Rd Pg Pt Mk Lk Ck Jd Ld Pr rt h _ _ _ hP hS (lv_sub hl [] rfl)
set_option maxHeartbeats 4000000 in
set_option maxRecDepth 100000 in
theorem w_SJ_alike_j22 {E : (Nat → Prop) → State → Heap → Prop} {p : Program} {l : Launch} {e : Env} {s : State} {m : MethodId} {args : Array Value} {below : List Frame} {meth : Method} {c : Code} {D : va_G} {ad kd sd vd xd : Nat → Nat} {ca : Nat → ClassId} {A : Nat → Prop} (hE : o_EK E kd sd vd xd) (C : o_Cx E p s m args meth c D o_cls (o_tys ca) "SchemaJudge" b_SJ_alike (some .boolean) 3 cc_SJ_alike A) (hDD : ∀ (rt : Nat) (Sj : SSJ) (T0 : STx) (T1 : STx) (Rd : SRd) (Pg : SPg) (Pt : SPt) (Mk : SMk) (Lk : SLk) (Ck : SCk) (Jd : SJd) (Ld : SLd) (Pr : SPr), va_D A (o_cw ad ca rt Sj T0 T1 Rd Pg Pt Mk Lk Ck Jd Ld Pr)) (hT : o_ET E) (htr : e.platform.stackTraces = false) (hne : c.exceptionTable.isEmpty = true) (n : Nat)  (T1 : STx) (Sj : SSJ) (T0 : STx) (Rd : SRd) (Pg : SPg) (Pt : SPt) (Mk : SMk) (Lk : SLk) (Ck : SCk) (Jd : SJd) (Ld : SLd) (Pr : SPr) (rt : Nat) {r : Nat × Int32} (h : m_SJ_alike_j22 n T1 = some r) : o_At p l e rm_SJ_alike s m args below meth c (o_MQT below (o_Qt D o_cls r.1 (some (.int r.2)) (o_cw ad ca rt Sj T0 T1 Rd Pg Pt Mk Lk Ck Jd Ld Pr) A) args s 1 6 A) o_cls D A 3 22 [] (o_cw ad ca rt Sj T0 T1 Rd Pg Pt Mk Lk Ck Jd Ld Pr) [] := by
  unfold m_SJ_alike_j22 at h
  intro H locs ls hP hS hl
  have C0 := C
  obtain ⟨hx, hb, -, -, -, hown, hts, hK, -, -⟩ := C0
  cases h
  exact o_thr (tx := "no such value") (msg := sd 21) hE.1 hT htr hne C (by decide +kernel) fit_n at_JI k_2_172 k_2_173 k_1_17 (fun A U H h9 => hE.2.2.2.2.2.1 A U H h9 ("SchemaJudge", 154, "no such value", 21) (List.mem_of_getElem? (i := 29) rfl)) hP hS hl.1 (show o_exn 1 = _ from rfl) (show (1 : Nat) ≠ 0 by decide) (Nat.le_of_ble_eq_true rfl) (Nat.le_of_ble_eq_true rfl) (Nat.le_of_ble_eq_true rfl) (Nat.le_of_ble_eq_true rfl) d_SJ_alike_22 d_SJ_alike_25 d_SJ_alike_26 d_SJ_alike_28 d_SJ_alike_31
set_option maxHeartbeats 4000000 in
set_option maxRecDepth 100000 in
theorem c_SJ_alike {E : (Nat → Prop) → State → Heap → Prop} {D : va_G} {ad kd sd vd xd : Nat → Nat} {ca : Nat → ClassId} (hE : o_EK E kd sd vd xd) (hT : o_ET E) (l : Launch) (hfl : l.flags = pinnedFlags ++ [noTraceFlag]) (n : Nat) (x1 : Int32) (x2 : Int32) (T1 : STx) (Sj : SSJ) (T0 : STx) (Rd : SRd) (Pg : SPg) (Pt : SPt) (Mk : SMk) (Lk : SLk) (Ck : SCk) (Jd : SJd) (Ld : SLd) (Pr : SPr) (rt : Nat) {r : Nat × Int32} (h : m_SJ_alike n x1 x2 T1 = some r) : o_Ct E l D o_cls (o_tys ca) y_SJ_alike cc_SJ_alike rm_SJ_alike [.ref (ad 0), .int x1, .int x2] (o_cw ad ca rt Sj T0 T1 Rd Pg Pt Mk Lk Ck Jd Ld Pr) (o_cw ad ca rt Sj T0 T1 Rd Pg Pt Mk Lk Ck Jd Ld Pr) r.1 (some (.int r.2)) := by
  refine o_Ct_of hfl (by decide) (Nat.le_of_ble_eq_true rfl) ?_
  intro p e s m below meth c A ls htr hne C hD hP hS hl
  have hDD : ∀ (rt : Nat) (Sj : SSJ) (T0 : STx) (T1 : STx) (Rd : SRd) (Pg : SPg) (Pt : SPt) (Mk : SMk) (Lk : SLk) (Ck : SCk) (Jd : SJd) (Ld : SLd) (Pr : SPr), va_D A (o_cw ad ca rt Sj T0 T1 Rd Pg Pt Mk Lk Ck Jd Ld Pr) := fun _ _ _ _ _ _ _ _ _ _ _ _ _ => o_D_map hD rfl
  have hl : lv_has ls 3 [(0, .ref (ad 0)), (1, .int x1), (2, .int x2)] := hl
  unfold m_SJ_alike at h
  have C0 := C
  obtain ⟨hx, hb, -, -, -, hown, hts, hK, -, -⟩ := C0
  refine lv_aload_n hx hb d_SJ_alike_0 rfl (lv_at hl 0 rfl) ?_
  refine o_get (v := .ref (ad 12)) C in_SJ hP 0 cw_0 rfl 1 (by decide) k_2_112 rfl rfl d_SJ_alike_1 ?_
  refine lv_iload_n hx hb d_SJ_alike_4 rfl (lv_at hl 1 rfl) ?_
  obtain ⟨q1, hq1, h⟩ := o_bd_some h
  refine o_V (st1 := [.int q1]) (w1 := (o_cw ad ca rt Sj T0 T1 Rd Pg Pt Mk Lk Ck Jd Ld Pr)) hE.1 C (c_Tx_has_1 hE l x1 T1 Sj T0 Rd Pg Pt Mk Lk Ck Jd Ld Pr rt hq1) hP (hDD _ _ _ _ _ _ _ _ _ _ _ _ _) hS hl.1 rfl cw_12 k_7_42 k_7_43 k_7_44 k_1_2 k_7_45 hv_Tx_has rfl rfl ⟨(Nat.le_of_ble_eq_true rfl), (Nat.le_of_ble_eq_true rfl)⟩ rfl (Nat.le_of_ble_eq_true rfl) ⟨Nat.zero_le _, Nat.zero_le _⟩ rfl d_SJ_alike_5 (fun H locs hP hS => ?_)
  refine lv_if_eq (tgt := 22) hx hb d_SJ_alike_8 (by decide) (fun c1 => ?_) (fun c1 => ?_)
  · replace h := o_tt c1 h
    exact w_SJ_alike_j22 hE C hDD hT htr hne n T1 Sj T0 Rd Pg Pt Mk Lk Ck Jd Ld Pr rt h _ _ _ hP hS (lv_sub hl [] rfl)
  · replace h := o_ff c1 h
    refine lv_aload_n hx hb d_SJ_alike_11 rfl (lv_at hl 0 rfl) ?_
    refine o_get (v := .ref (ad 12)) C in_SJ hP 0 cw_0 rfl 1 (by decide) k_2_112 rfl rfl d_SJ_alike_12 ?_
    refine lv_iload_n hx hb d_SJ_alike_15 rfl (lv_at hl 2 rfl) ?_
    obtain ⟨q2, hq2, h⟩ := o_bd_some h
    refine o_V (st1 := [.int q2]) (w1 := (o_cw ad ca rt Sj T0 T1 Rd Pg Pt Mk Lk Ck Jd Ld Pr)) hE.1 C (c_Tx_has_1 hE l x2 T1 Sj T0 Rd Pg Pt Mk Lk Ck Jd Ld Pr rt hq2) hP (hDD _ _ _ _ _ _ _ _ _ _ _ _ _) hS hl.1 rfl cw_12 k_7_42 k_7_43 k_7_44 k_1_2 k_7_45 hv_Tx_has rfl rfl ⟨(Nat.le_of_ble_eq_true rfl), (Nat.le_of_ble_eq_true rfl)⟩ rfl (Nat.le_of_ble_eq_true rfl) ⟨Nat.zero_le _, Nat.zero_le _⟩ rfl d_SJ_alike_16 (fun H locs hP hS => ?_)
    refine lv_if_ne (tgt := 32) hx hb d_SJ_alike_19 (by decide) (fun c2 => ?_) (fun c2 => ?_)
    · replace h := o_ff c2 h
      refine lv_aload_n hx hb d_SJ_alike_32 rfl (lv_at hl 0 rfl) ?_
      refine o_get (v := .ref (ad 12)) C in_SJ hP 0 cw_0 rfl 1 (by decide) k_2_112 rfl rfl d_SJ_alike_33 ?_
      refine lv_iload_n hx hb d_SJ_alike_36 rfl (lv_at hl 1 rfl) ?_
      refine lv_aload_n hx hb d_SJ_alike_37 rfl (lv_at hl 0 rfl) ?_
      refine o_get (v := .ref (ad 12)) C in_SJ hP 0 cw_0 rfl 1 (by decide) k_2_112 rfl rfl d_SJ_alike_38 ?_
      refine lv_iload_n hx hb d_SJ_alike_41 rfl (lv_at hl 2 rfl) ?_
      refine lv_iconst (v := (0:Int32)) hx hb d_SJ_alike_42 (by decide) ?_
      obtain ⟨q3, hq3, h⟩ := o_bd_some h
      refine o_S (st1 := [.int q3]) (w1 := (o_cw ad ca rt Sj T0 T1 Rd Pg Pt Mk Lk Ck Jd Ld Pr)) hE.1 C (c_Tx_same_11 hE l n 43 x1 x2 (0:Int32) T1 Sj T0 Rd Pg Pt Mk Lk Ck Jd Ld Pr rt hq3) hP (hDD _ _ _ _ _ _ _ _ _ _ _ _ _) hS hl.1 k_7_59 k_6_182 k_1_2 k_6_183 hs_Tx_same rfl rfl ⟨(Nat.le_of_ble_eq_true rfl), (Nat.le_of_ble_eq_true rfl)⟩ rfl (Nat.le_of_ble_eq_true rfl) ⟨Nat.zero_le _, Nat.zero_le _⟩ rfl d_SJ_alike_43 (fun H locs hP hS => ?_)
      obtain ⟨g3, h⟩ := o_gd_some h
      cases h
      exact o_ret0 (o_rz C (o_zb_nar g3) hP hS d_SJ_alike_46)
    · replace h := o_tt c2 h
      exact w_SJ_alike_j22 hE C hDD hT htr hne n T1 Sj T0 Rd Pg Pt Mk Lk Ck Jd Ld Pr rt h _ _ _ hP hS (lv_sub hl [] rfl)
set_option maxHeartbeats 4000000 in
set_option maxRecDepth 100000 in
theorem w_Pt_tokenise_b19_1 {E : (Nat → Prop) → State → Heap → Prop} {p : Program} {l : Launch} {e : Env} {s : State} {m : MethodId} {args : Array Value} {below : List Frame} {meth : Method} {c : Code} {D : va_G} {ad kd sd vd xd : Nat → Nat} {ca : Nat → ClassId} {A : Nat → Prop} {Q : State → Prop} (hE : o_EK E kd sd vd xd) (C : o_Cx E p s m args meth c D o_cls (o_tys ca) "SchemaJudge$Pattern" b_Pt_tokenise (some .boolean) 7 cc_Pt_tokenise A) (hDD : ∀ (rt : Nat) (Sj : SSJ) (T0 : STx) (T1 : STx) (Rd : SRd) (Pg : SPg) (Pt : SPt) (Mk : SMk) (Lk : SLk) (Ck : SCk) (Jd : SJd) (Ld : SLd) (Pr : SPr), va_D A (o_cw ad ca rt Sj T0 T1 Rd Pg Pt Mk Lk Ck Jd Ld Pr)) (n : Nat) (u19_x2 : Int32) (u19_a1 : STx) (u19_Sj : SSJ) (u19_T0 : STx) (u19_Rd : SRd) (u19_Pg : SPg) (u19_Mk : SMk) (u19_Lk : SLk) (u19_Ck : SCk) (u19_Jd : SJd) (u19_Ld : SLd) (u19_Pr : SPr) (u19_rt : Nat) (z : Int32 × SPt) (q : Nat × Int32 × SPt) (h : m_Pt_tokenise_b19 n u19_x2 u19_a1 z = some q) (h0 : q.1 = 0 → o_At p l e rm_Pt_tokenise s m args below meth c Q o_cls D A 7 19 [] (o_cw ad ca u19_rt u19_Sj u19_T0 u19_a1 u19_Rd u19_Pg q.2.2 u19_Mk u19_Lk u19_Ck u19_Jd u19_Ld u19_Pr) [(0, .ref (ad 33)), (1, .ref (ad 12)), (2, .int u19_x2), (3, .int q.2.1)]) (h1 : q.1 ≠ 0 → (o_At p l e rm_Pt_tokenise s m args below meth c Q o_cls D A 7 45 [] (o_cw ad ca u19_rt u19_Sj u19_T0 u19_a1 u19_Rd u19_Pg q.2.2 u19_Mk u19_Lk u19_Ck u19_Jd u19_Ld u19_Pr) [(0, .ref (ad 33))])) : o_At p l e rm_Pt_tokenise s m args below meth c Q o_cls D A 7 19 [] (o_cw ad ca u19_rt u19_Sj u19_T0 u19_a1 u19_Rd u19_Pg z.2 u19_Mk u19_Lk u19_Ck u19_Jd u19_Ld u19_Pr) [(0, .ref (ad 33)), (1, .ref (ad 12)), (2, .int u19_x2), (3, .int z.1)] := by
  unfold m_Pt_tokenise_b19 at h
  intro H locs ls hP hS hl
  have C0 := C
  obtain ⟨hx, hb, -, -, -, hown, hts, hK, -, -⟩ := C0
  refine lv_iload_n hx hb d_Pt_tokenise_19 rfl (lv_at hl 3 rfl) ?_
  refine lv_aload_n hx hb d_Pt_tokenise_20 rfl (lv_at hl 0 rfl) ?_
  refine o_get (v := .int (Pt_characterCount z.2)) C in_Pt hP 33 cw_33 rfl 2 (by decide) k_1_162 rfl rfl d_Pt_tokenise_21 ?_
  refine lv_icmp_ge (tgt := 45) hx hb d_Pt_tokenise_24 (by decide) (fun c1 => ?_) (fun c1 => ?_)
  · replace h := o_tt c1 h
    cases h
    exact h1 (Nat.succ_ne_zero 0) _ _ _ hP hS (lv_sub hl [0] rfl)
  · replace h := o_ff c1 h
    refine lv_aload_n hx hb d_Pt_tokenise_27 rfl (lv_at hl 0 rfl) ?_
    refine o_get (v := .ref (ad 34)) C in_Pt hP 33 cw_33 rfl 1 (by decide) k_1_161 rfl rfl d_Pt_tokenise_28 ?_
    refine lv_iload_n hx hb d_Pt_tokenise_31 rfl (lv_at hl 3 rfl) ?_
    refine lv_aload_n hx hb d_Pt_tokenise_32 rfl (lv_at hl 1 rfl) ?_
    refine lv_iload_n hx hb d_Pt_tokenise_33 rfl (lv_at hl 2 rfl) ?_
    refine lv_iload_n hx hb d_Pt_tokenise_34 rfl (lv_at hl 3 rfl) ?_
    obtain ⟨q2, hq2, h⟩ := o_bd_some h
    refine o_V (st1 := [.int q2, .int z.1, .ref (ad 34)]) (w1 := (o_cw ad ca u19_rt u19_Sj u19_T0 u19_a1 u19_Rd u19_Pg z.2 u19_Mk u19_Lk u19_Ck u19_Jd u19_Ld u19_Pr)) hE.1 C (c_Tx_cell_1 hE l u19_x2 z.1 u19_a1 u19_Sj u19_T0 u19_Rd u19_Pg z.2 u19_Mk u19_Lk u19_Ck u19_Jd u19_Ld u19_Pr u19_rt hq2) hP (hDD _ _ _ _ _ _ _ _ _ _ _ _ _) hS hl.1 rfl cw_12 k_4_116 k_4_117 k_4_118 k_1_2 k_4_119 hv_Tx_cell rfl rfl ⟨(Nat.le_of_ble_eq_true rfl), (Nat.le_of_ble_eq_true rfl)⟩ rfl (Nat.le_of_ble_eq_true rfl) ⟨Nat.zero_le _, Nat.zero_le _⟩ rfl d_Pt_tokenise_35 (fun H locs hP hS => ?_)
    obtain ⟨g2, h⟩ := o_gd_some h
    refine o_iast (f := (Pt_tokens z.2)) (w1 := (o_cw ad ca u19_rt u19_Sj u19_T0 u19_a1 u19_Rd u19_Pg (Pt_mk (upd (Pt_tokens z.2) z.1.toNatClampNeg q2) (Pt_characterCount z.2) (Pt_tokenCount z.2) (Pt_position z.2) (Pt_total z.2) (Pt_least z.2) (Pt_most z.2) (Pt_depth z.2) (Pt_blockStarts z.2) (Pt_branchStarts z.2) (Pt_jumps z.2) (Pt_sizesBefore z.2)) u19_Mk u19_Lk u19_Ck u19_Jd u19_Ld u19_Pr)) C hP (hDD _ _ _ _ _ _ _ _ _ _ _ _ _) hS 34 28 cw_34 rfl g2 rfl d_Pt_tokenise_38 (fun H locs hP hS => ?_)
    obtain ⟨x3_39, ex3_39⟩ : ∃ y : Int32, y = z.1 + (1:Int32) := ⟨_, rfl⟩
    replace h := o_nm_at ex3_39 h
    refine lv_iinc (v := x3_39) (lv' := [(3, .int x3_39), (0, .ref (ad 33)), (1, .ref (ad 12)), (2, .int u19_x2)]) hx hb d_Pt_tokenise_39 hl (k := 3) rfl (by rw [ex3_39]; rfl) (by decide) rfl (fun ls hl => ?_)
    refine lv_goto (tgt := 19) hx hb d_Pt_tokenise_42 (by decide) ?_
    cases h
    exact h0 rfl _ _ _ hP hS (lv_sub hl [1, 2, 3, 0] rfl)
set_option maxHeartbeats 4000000 in
set_option maxRecDepth 100000 in
theorem w_Pt_tokenise_j190_1 {E : (Nat → Prop) → State → Heap → Prop} {p : Program} {l : Launch} {e : Env} {s : State} {m : MethodId} {args : Array Value} {below : List Frame} {meth : Method} {c : Code} {D : va_G} {ad kd sd vd xd : Nat → Nat} {ca : Nat → ClassId} {A : Nat → Prop} {Q : State → Prop} (hE : o_EK E kd sd vd xd) (C : o_Cx E p s m args meth c D o_cls (o_tys ca) "SchemaJudge$Pattern" b_Pt_tokenise (some .boolean) 7 cc_Pt_tokenise A) (hDD : ∀ (rt : Nat) (Sj : SSJ) (T0 : STx) (T1 : STx) (Rd : SRd) (Pg : SPg) (Pt : SPt) (Mk : SMk) (Lk : SLk) (Ck : SCk) (Jd : SJd) (Ld : SLd) (Pr : SPr), va_D A (o_cw ad ca rt Sj T0 T1 Rd Pg Pt Mk Lk Ck Jd Ld Pr)) (n : Nat) (u60_a1 : STx) (u60_Sj : SSJ) (u60_T0 : STx) (u60_Rd : SRd) (u60_Pg : SPg) (u60_Mk : SMk) (u60_Lk : SLk) (u60_Ck : SCk) (u60_Jd : SJd) (u60_Ld : SLd) (u60_Pr : SPr) (u60_rt : Nat) (x3 : Int32) (x4 : Int32) (x6 : Int32) (Pt : SPt) {q : Nat × Int32 × Int32 × SPt} (h : m_Pt_tokenise_j190 n x3 x4 x6 u60_a1 Pt = some q) (h0 : q.1 = 0 → o_At p l e rm_Pt_tokenise s m args below meth c Q o_cls D A 7 60 [] (o_cw ad ca u60_rt u60_Sj u60_T0 u60_a1 u60_Rd u60_Pg q.2.2.2 u60_Mk u60_Lk u60_Ck u60_Jd u60_Ld u60_Pr) [(0, .ref (ad 33)), (3, .int q.2.1), (4, .int q.2.2.1)]) (h1 : q.1 ≠ 0 → (if q.1 = 1 then o_At p l e rm_Pt_tokenise s m args below meth c Q o_cls D A 7 126 [] (o_cw ad ca u60_rt u60_Sj u60_T0 u60_a1 u60_Rd u60_Pg q.2.2.2 u60_Mk u60_Lk u60_Ck u60_Jd u60_Ld u60_Pr) [] else o_At p l e rm_Pt_tokenise s m args below meth c Q o_cls D A 7 217 [] (o_cw ad ca u60_rt u60_Sj u60_T0 u60_a1 u60_Rd u60_Pg q.2.2.2 u60_Mk u60_Lk u60_Ck u60_Jd u60_Ld u60_Pr) [(3, .int q.2.1)])) : o_At p l e rm_Pt_tokenise s m args below meth c Q o_cls D A 7 190 [] (o_cw ad ca u60_rt u60_Sj u60_T0 u60_a1 u60_Rd u60_Pg Pt u60_Mk u60_Lk u60_Ck u60_Jd u60_Ld u60_Pr) [(0, .ref (ad 33)), (3, .int x3), (4, .int x4), (6, .int x6)] := by
  unfold m_Pt_tokenise_j190 at h
  intro H locs ls hP hS hl
  have C0 := C
  obtain ⟨hx, hb, -, -, -, hown, hts, hK, -, -⟩ := C0
  refine lv_aload_n hx hb d_Pt_tokenise_190 rfl (lv_at hl 0 rfl) ?_
  refine o_get (v := .ref (ad 34)) C in_Pt hP 33 cw_33 rfl 1 (by decide) k_1_161 rfl rfl d_Pt_tokenise_191 ?_
  refine lv_aload_n hx hb d_Pt_tokenise_194 rfl (lv_at hl 0 rfl) ?_
  refine o_get (v := .int (Pt_tokenCount Pt)) C in_Pt hP 33 cw_33 rfl 3 (by decide) k_1_163 rfl rfl d_Pt_tokenise_195 ?_
  refine lv_iload hx hb d_Pt_tokenise_198 (lv_at hl 3 rfl) ?_
  obtain ⟨g9, h⟩ := o_gd_some h
  refine o_iast (f := (Pt_tokens Pt)) (w1 := (o_cw ad ca u60_rt u60_Sj u60_T0 u60_a1 u60_Rd u60_Pg (Pt_mk (upd (Pt_tokens Pt) (Pt_tokenCount Pt).toNatClampNeg x6) (Pt_characterCount Pt) (Pt_tokenCount Pt) (Pt_position Pt) (Pt_total Pt) (Pt_least Pt) (Pt_most Pt) (Pt_depth Pt) (Pt_blockStarts Pt) (Pt_branchStarts Pt) (Pt_jumps Pt) (Pt_sizesBefore Pt)) u60_Mk u60_Lk u60_Ck u60_Jd u60_Ld u60_Pr)) C hP (hDD _ _ _ _ _ _ _ _ _ _ _ _ _) hS 34 28 cw_34 rfl g9 rfl d_Pt_tokenise_200 (fun H locs hP hS => ?_)
  refine lv_aload_n hx hb d_Pt_tokenise_201 rfl (lv_at hl 0 rfl) ?_
  refine lv_dup hx hb d_Pt_tokenise_202 rfl ?_
  refine o_get (v := .int (Pt_tokenCount Pt)) C in_Pt hP 33 cw_33 rfl 3 (by decide) k_1_163 rfl rfl d_Pt_tokenise_203 ?_
  refine lv_iconst (v := (1:Int32)) hx hb d_Pt_tokenise_206 (by decide) ?_
  refine lv_iadd hx hb d_Pt_tokenise_207 ?_
  refine o_put (v := .int ((Pt_tokenCount Pt) + (1:Int32))) (ty := .int) (w1 := (o_cw ad ca u60_rt u60_Sj u60_T0 u60_a1 u60_Rd u60_Pg (Pt_mk (upd (Pt_tokens Pt) (Pt_tokenCount Pt).toNatClampNeg x6) (Pt_characterCount Pt) ((Pt_tokenCount Pt) + (1:Int32)) (Pt_position Pt) (Pt_total Pt) (Pt_least Pt) (Pt_most Pt) (Pt_depth Pt) (Pt_blockStarts Pt) (Pt_branchStarts Pt) (Pt_jumps Pt) (Pt_sizesBefore Pt)) u60_Mk u60_Lk u60_Ck u60_Jd u60_Ld u60_Pr)) C in_Pt t_Pt t_Pt_ok n_Pt hP (hDD _ _ _ _ _ _ _ _ _ _ _ _ _) hS 33 cw_33 rfl 3 (by decide) k_1_163 rfl rfl (by decide +kernel) rfl rfl (Nat.le_of_ble_eq_true rfl) rfl d_Pt_tokenise_208 (fun H locs hP hS => ?_)
  obtain ⟨x4_211, ex4_211⟩ : ∃ y : Int32, y = x4 + (1:Int32) := ⟨_, rfl⟩
  replace h := o_nm_at ex4_211 h
  refine lv_iinc (v := x4_211) (lv' := [(4, .int x4_211), (0, .ref (ad 33)), (3, .int x3), (6, .int x6)]) hx hb d_Pt_tokenise_211 hl (k := 2) rfl (by rw [ex4_211]; rfl) (by decide) rfl (fun ls hl => ?_)
  refine lv_goto (tgt := 60) hx hb d_Pt_tokenise_214 (by decide) ?_
  cases h
  exact h0 rfl _ _ _ hP hS (lv_sub hl [1, 2, 0] rfl)
set_option maxHeartbeats 4000000 in
set_option maxRecDepth 100000 in
theorem w_Pt_tokenise_j184_1 {E : (Nat → Prop) → State → Heap → Prop} {p : Program} {l : Launch} {e : Env} {s : State} {m : MethodId} {args : Array Value} {below : List Frame} {meth : Method} {c : Code} {D : va_G} {ad kd sd vd xd : Nat → Nat} {ca : Nat → ClassId} {A : Nat → Prop} {Q : State → Prop} (hE : o_EK E kd sd vd xd) (C : o_Cx E p s m args meth c D o_cls (o_tys ca) "SchemaJudge$Pattern" b_Pt_tokenise (some .boolean) 7 cc_Pt_tokenise A) (hDD : ∀ (rt : Nat) (Sj : SSJ) (T0 : STx) (T1 : STx) (Rd : SRd) (Pg : SPg) (Pt : SPt) (Mk : SMk) (Lk : SLk) (Ck : SCk) (Jd : SJd) (Ld : SLd) (Pr : SPr), va_D A (o_cw ad ca rt Sj T0 T1 Rd Pg Pt Mk Lk Ck Jd Ld Pr)) (n : Nat) (u60_a1 : STx) (u60_Sj : SSJ) (u60_T0 : STx) (u60_Rd : SRd) (u60_Pg : SPg) (u60_Mk : SMk) (u60_Lk : SLk) (u60_Ck : SCk) (u60_Jd : SJd) (u60_Ld : SLd) (u60_Pr : SPr) (u60_rt : Nat) (x4 : Int32) (x5 : Int32) (y0 : Int32) (Pt : SPt) {q : Nat × Int32 × Int32 × SPt} (h : m_Pt_tokenise_j184 n x4 x5 y0 u60_a1 Pt = some q) (h0 : q.1 = 0 → o_At p l e rm_Pt_tokenise s m args below meth c Q o_cls D A 7 60 [] (o_cw ad ca u60_rt u60_Sj u60_T0 u60_a1 u60_Rd u60_Pg q.2.2.2 u60_Mk u60_Lk u60_Ck u60_Jd u60_Ld u60_Pr) [(0, .ref (ad 33)), (3, .int q.2.1), (4, .int q.2.2.1)]) (h1 : q.1 ≠ 0 → (if q.1 = 1 then o_At p l e rm_Pt_tokenise s m args below meth c Q o_cls D A 7 126 [] (o_cw ad ca u60_rt u60_Sj u60_T0 u60_a1 u60_Rd u60_Pg q.2.2.2 u60_Mk u60_Lk u60_Ck u60_Jd u60_Ld u60_Pr) [] else o_At p l e rm_Pt_tokenise s m args below meth c Q o_cls D A 7 217 [] (o_cw ad ca u60_rt u60_Sj u60_T0 u60_a1 u60_Rd u60_Pg q.2.2.2 u60_Mk u60_Lk u60_Ck u60_Jd u60_Ld u60_Pr) [(3, .int q.2.1)])) : o_At p l e rm_Pt_tokenise s m args below meth c Q o_cls D A 7 184 [.int y0] (o_cw ad ca u60_rt u60_Sj u60_T0 u60_a1 u60_Rd u60_Pg Pt u60_Mk u60_Lk u60_Ck u60_Jd u60_Ld u60_Pr) [(0, .ref (ad 33)), (4, .int x4), (5, .int x5)] := by
  unfold m_Pt_tokenise_j184 at h
  intro H locs ls hP hS hl
  have C0 := C
  obtain ⟨hx, hb, -, -, -, hown, hts, hK, -, -⟩ := C0
  refine lv_istore_n (lv' := [(3, .int y0), (0, .ref (ad 33)), (4, .int x4), (5, .int x5)]) hx hb d_Pt_tokenise_184 rfl hl (by decide) rfl (fun ls hl => ?_)
  refine lv_iload hx hb d_Pt_tokenise_185 (lv_at hl 3 rfl) ?_
  refine lv_ineg hx hb d_Pt_tokenise_187 ?_
  refine lv_topi (fun x6_188 ex6_188 => ?_)
  replace h := o_nm_at ex6_188 h
  refine lv_istore (lv' := [(6, .int x6_188), (3, .int y0), (0, .ref (ad 33)), (4, .int x4), (5, .int x5)]) hx hb d_Pt_tokenise_188 hl (by decide) rfl (fun ls hl => ?_)
  exact w_Pt_tokenise_j190_1 hE C hDD n u60_a1 u60_Sj u60_T0 u60_Rd u60_Pg u60_Mk u60_Lk u60_Ck u60_Jd u60_Ld u60_Pr u60_rt y0 x4 x6_188 Pt h h0 h1 _ _ _ hP hS (lv_sub hl [2, 1, 3, 0] rfl)
set_option maxHeartbeats 4000000 in
set_option maxRecDepth 100000 in
theorem w_Pt_tokenise_j144_1 {E : (Nat → Prop) → State → Heap → Prop} {p : Program} {l : Launch} {e : Env} {s : State} {m : MethodId} {args : Array Value} {below : List Frame} {meth : Method} {c : Code} {D : va_G} {ad kd sd vd xd : Nat → Nat} {ca : Nat → ClassId} {A : Nat → Prop} {Q : State → Prop} (hE : o_EK E kd sd vd xd) (C : o_Cx E p s m args meth c D o_cls (o_tys ca) "SchemaJudge$Pattern" b_Pt_tokenise (some .boolean) 7 cc_Pt_tokenise A) (hDD : ∀ (rt : Nat) (Sj : SSJ) (T0 : STx) (T1 : STx) (Rd : SRd) (Pg : SPg) (Pt : SPt) (Mk : SMk) (Lk : SLk) (Ck : SCk) (Jd : SJd) (Ld : SLd) (Pr : SPr), va_D A (o_cw ad ca rt Sj T0 T1 Rd Pg Pt Mk Lk Ck Jd Ld Pr)) (n : Nat) (u60_a1 : STx) (u60_Sj : SSJ) (u60_T0 : STx) (u60_Rd : SRd) (u60_Pg : SPg) (u60_Mk : SMk) (u60_Lk : SLk) (u60_Ck : SCk) (u60_Jd : SJd) (u60_Ld : SLd) (u60_Pr : SPr) (u60_rt : Nat) (x4 : Int32) (x5 : Int32) (y0 : Int32) (Pt : SPt) {q : Nat × Int32 × Int32 × SPt} (h : m_Pt_tokenise_j144 n x4 x5 y0 u60_a1 Pt = some q) (h0 : q.1 = 0 → o_At p l e rm_Pt_tokenise s m args below meth c Q o_cls D A 7 60 [] (o_cw ad ca u60_rt u60_Sj u60_T0 u60_a1 u60_Rd u60_Pg q.2.2.2 u60_Mk u60_Lk u60_Ck u60_Jd u60_Ld u60_Pr) [(0, .ref (ad 33)), (3, .int q.2.1), (4, .int q.2.2.1)]) (h1 : q.1 ≠ 0 → (if q.1 = 1 then o_At p l e rm_Pt_tokenise s m args below meth c Q o_cls D A 7 126 [] (o_cw ad ca u60_rt u60_Sj u60_T0 u60_a1 u60_Rd u60_Pg q.2.2.2 u60_Mk u60_Lk u60_Ck u60_Jd u60_Ld u60_Pr) [] else o_At p l e rm_Pt_tokenise s m args below meth c Q o_cls D A 7 217 [] (o_cw ad ca u60_rt u60_Sj u60_T0 u60_a1 u60_Rd u60_Pg q.2.2.2 u60_Mk u60_Lk u60_Ck u60_Jd u60_Ld u60_Pr) [(3, .int q.2.1)])) : o_At p l e rm_Pt_tokenise s m args below meth c Q o_cls D A 7 144 [.int y0] (o_cw ad ca u60_rt u60_Sj u60_T0 u60_a1 u60_Rd u60_Pg Pt u60_Mk u60_Lk u60_Ck u60_Jd u60_Ld u60_Pr) [(0, .ref (ad 33)), (4, .int x4), (5, .int x5)] := by
  unfold m_Pt_tokenise_j144 at h
  intro H locs ls hP hS hl
  have C0 := C
  obtain ⟨hx, hb, -, -, -, hown, hts, hK, -, -⟩ := C0
  refine lv_istore_n (lv' := [(3, .int y0), (0, .ref (ad 33)), (4, .int x4), (5, .int x5)]) hx hb d_Pt_tokenise_144 rfl hl (by decide) rfl (fun ls hl => ?_)
  refine lv_iload_n hx hb d_Pt_tokenise_145 rfl (lv_at hl 0 rfl) ?_
  refine lv_if_eq (tgt := 154) hx hb d_Pt_tokenise_146 (by decide) (fun c12 => ?_) (fun c12 => ?_)
  · replace h := o_tt c12 h
    refine lv_iload hx hb d_Pt_tokenise_154 (lv_at hl 3 rfl) ?_
    refine lv_ineg hx hb d_Pt_tokenise_156 ?_
    refine lv_topi (fun x6_157 ex6_157 => ?_)
    replace h := o_nm_at ex6_157 h
    refine lv_istore (lv' := [(6, .int x6_157), (3, .int y0), (0, .ref (ad 33)), (4, .int x4), (5, .int x5)]) hx hb d_Pt_tokenise_157 hl (by decide) rfl (fun ls hl => ?_)
    refine lv_goto (tgt := 190) hx hb d_Pt_tokenise_159 (by decide) ?_
    exact w_Pt_tokenise_j190_1 hE C hDD n u60_a1 u60_Sj u60_T0 u60_Rd u60_Pg u60_Mk u60_Lk u60_Ck u60_Jd u60_Ld u60_Pr u60_rt y0 x4 x6_157 Pt h h0 h1 _ _ _ hP hS (lv_sub hl [2, 1, 3, 0] rfl)
  · replace h := o_ff c12 h
    refine lv_iload hx hb d_Pt_tokenise_149 (lv_at hl 3 rfl) ?_
    refine lv_goto (tgt := 157) hx hb d_Pt_tokenise_151 (by decide) ?_
    refine lv_istore (lv' := [(6, .int x5), (3, .int y0), (0, .ref (ad 33)), (4, .int x4), (5, .int x5)]) hx hb d_Pt_tokenise_157 hl (by decide) rfl (fun ls hl => ?_)
    refine lv_goto (tgt := 190) hx hb d_Pt_tokenise_159 (by decide) ?_
    exact w_Pt_tokenise_j190_1 hE C hDD n u60_a1 u60_Sj u60_T0 u60_Rd u60_Pg u60_Mk u60_Lk u60_Ck u60_Jd u60_Ld u60_Pr u60_rt y0 x4 x5 Pt h h0 h1 _ _ _ hP hS (lv_sub hl [2, 1, 3, 0] rfl)
set_option maxHeartbeats 4000000 in
set_option maxRecDepth 100000 in
theorem w_Pt_tokenise_b60_1 {E : (Nat → Prop) → State → Heap → Prop} {p : Program} {l : Launch} {e : Env} {s : State} {m : MethodId} {args : Array Value} {below : List Frame} {meth : Method} {c : Code} {D : va_G} {ad kd sd vd xd : Nat → Nat} {ca : Nat → ClassId} {A : Nat → Prop} {Q : State → Prop} (hE : o_EK E kd sd vd xd) (C : o_Cx E p s m args meth c D o_cls (o_tys ca) "SchemaJudge$Pattern" b_Pt_tokenise (some .boolean) 7 cc_Pt_tokenise A) (hDD : ∀ (rt : Nat) (Sj : SSJ) (T0 : STx) (T1 : STx) (Rd : SRd) (Pg : SPg) (Pt : SPt) (Mk : SMk) (Lk : SLk) (Ck : SCk) (Jd : SJd) (Ld : SLd) (Pr : SPr), va_D A (o_cw ad ca rt Sj T0 T1 Rd Pg Pt Mk Lk Ck Jd Ld Pr)) (n : Nat) (u60_a1 : STx) (u60_Sj : SSJ) (u60_T0 : STx) (u60_Rd : SRd) (u60_Pg : SPg) (u60_Mk : SMk) (u60_Lk : SLk) (u60_Ck : SCk) (u60_Jd : SJd) (u60_Ld : SLd) (u60_Pr : SPr) (u60_rt : Nat) (z : Int32 × Int32 × SPt) (q : Nat × Int32 × Int32 × SPt) (h : m_Pt_tokenise_b60 n u60_a1 z = some q) (h0 : q.1 = 0 → o_At p l e rm_Pt_tokenise s m args below meth c Q o_cls D A 7 60 [] (o_cw ad ca u60_rt u60_Sj u60_T0 u60_a1 u60_Rd u60_Pg q.2.2.2 u60_Mk u60_Lk u60_Ck u60_Jd u60_Ld u60_Pr) [(0, .ref (ad 33)), (3, .int q.2.1), (4, .int q.2.2.1)]) (h1 : q.1 ≠ 0 → (if q.1 = 1 then o_At p l e rm_Pt_tokenise s m args below meth c Q o_cls D A 7 126 [] (o_cw ad ca u60_rt u60_Sj u60_T0 u60_a1 u60_Rd u60_Pg q.2.2.2 u60_Mk u60_Lk u60_Ck u60_Jd u60_Ld u60_Pr) [] else o_At p l e rm_Pt_tokenise s m args below meth c Q o_cls D A 7 217 [] (o_cw ad ca u60_rt u60_Sj u60_T0 u60_a1 u60_Rd u60_Pg q.2.2.2 u60_Mk u60_Lk u60_Ck u60_Jd u60_Ld u60_Pr) [(3, .int q.2.1)])) : o_At p l e rm_Pt_tokenise s m args below meth c Q o_cls D A 7 60 [] (o_cw ad ca u60_rt u60_Sj u60_T0 u60_a1 u60_Rd u60_Pg z.2.2 u60_Mk u60_Lk u60_Ck u60_Jd u60_Ld u60_Pr) [(0, .ref (ad 33)), (3, .int z.1), (4, .int z.2.1)] := by
  unfold m_Pt_tokenise_b60 at h
  intro H locs ls hP hS hl
  have C0 := C
  obtain ⟨hx, hb, -, -, -, hown, hts, hK, -, -⟩ := C0
  refine lv_iload hx hb d_Pt_tokenise_60 (lv_at hl 2 rfl) ?_
  refine lv_aload_n hx hb d_Pt_tokenise_62 rfl (lv_at hl 0 rfl) ?_
  refine o_get (v := .ref (ad 34)) C in_Pt hP 33 cw_33 rfl 1 (by decide) k_1_161 rfl rfl d_Pt_tokenise_63 ?_
  refine va_alen (v := (4000:Int32)) hx hb hK hP 34 28 cw_34 rfl rfl d_Pt_tokenise_66 ?_
  refine lv_icmp_ge (tgt := 217) hx hb d_Pt_tokenise_67 (by decide) (fun c3 => ?_) (fun c3 => ?_)
  · replace h := o_tt c3 h
    cases h
    exact h1 (Nat.succ_ne_zero 1) _ _ _ hP hS (lv_sub hl [1] rfl)
  · replace h := o_ff c3 h
    refine lv_aload_n hx hb d_Pt_tokenise_70 rfl (lv_at hl 0 rfl) ?_
    refine o_get (v := .int (Pt_position z.2.2)) C in_Pt hP 33 cw_33 rfl 4 (by decide) k_1_164 rfl rfl d_Pt_tokenise_71 ?_
    refine lv_aload_n hx hb d_Pt_tokenise_74 rfl (lv_at hl 0 rfl) ?_
    refine o_get (v := .int (Pt_characterCount z.2.2)) C in_Pt hP 33 cw_33 rfl 2 (by decide) k_1_162 rfl rfl d_Pt_tokenise_75 ?_
    refine lv_icmp_ge (tgt := 217) hx hb d_Pt_tokenise_78 (by decide) (fun c4 => ?_) (fun c4 => ?_)
    · replace h := o_tt c4 h
      cases h
      exact h1 (Nat.succ_ne_zero 1) _ _ _ hP hS (lv_sub hl [1] rfl)
    · replace h := o_ff c4 h
      refine lv_aload_n hx hb d_Pt_tokenise_81 rfl (lv_at hl 0 rfl) ?_
      refine o_get (v := .ref (ad 34)) C in_Pt hP 33 cw_33 rfl 1 (by decide) k_1_161 rfl rfl d_Pt_tokenise_82 ?_
      refine lv_aload_n hx hb d_Pt_tokenise_85 rfl (lv_at hl 0 rfl) ?_
      refine o_get (v := .int (Pt_position z.2.2)) C in_Pt hP 33 cw_33 rfl 4 (by decide) k_1_164 rfl rfl d_Pt_tokenise_86 ?_
      obtain ⟨g5, h⟩ := o_gd_some h
      refine o_iald (f := (Pt_tokens z.2.2)) C hP 34 28 cw_34 rfl g5 d_Pt_tokenise_89 ?_
      refine lv_topi (fun x5_90 ex5_90 => ?_)
      replace h := o_nm_at ex5_90 h
      refine lv_istore (lv' := [(5, .int x5_90), (0, .ref (ad 33)), (3, .int z.1), (4, .int z.2.1)]) hx hb d_Pt_tokenise_90 hl (by decide) rfl (fun ls hl => ?_)
      refine lv_aload_n hx hb d_Pt_tokenise_92 rfl (lv_at hl 1 rfl) ?_
      refine lv_dup hx hb d_Pt_tokenise_93 rfl ?_
      refine o_get (v := .int (Pt_position z.2.2)) C in_Pt hP 33 cw_33 rfl 4 (by decide) k_1_164 rfl rfl d_Pt_tokenise_94 ?_
      refine lv_iconst (v := (1:Int32)) hx hb d_Pt_tokenise_97 (by decide) ?_
      refine lv_iadd hx hb d_Pt_tokenise_98 ?_
      refine o_put (v := .int ((Pt_position z.2.2) + (1:Int32))) (ty := .int) (w1 := (o_cw ad ca u60_rt u60_Sj u60_T0 u60_a1 u60_Rd u60_Pg (Pt_mk (Pt_tokens z.2.2) (Pt_characterCount z.2.2) (Pt_tokenCount z.2.2) ((Pt_position z.2.2) + (1:Int32)) (Pt_total z.2.2) (Pt_least z.2.2) (Pt_most z.2.2) (Pt_depth z.2.2) (Pt_blockStarts z.2.2) (Pt_branchStarts z.2.2) (Pt_jumps z.2.2) (Pt_sizesBefore z.2.2)) u60_Mk u60_Lk u60_Ck u60_Jd u60_Ld u60_Pr)) C in_Pt t_Pt t_Pt_ok n_Pt hP (hDD _ _ _ _ _ _ _ _ _ _ _ _ _) hS 33 cw_33 rfl 4 (by decide) k_1_164 rfl rfl (by decide +kernel) rfl rfl (Nat.le_of_ble_eq_true rfl) rfl d_Pt_tokenise_99 (fun H locs hP hS => ?_)
      refine lv_iload hx hb d_Pt_tokenise_102 (lv_at hl 0 rfl) ?_
      refine lv_istore (lv' := [(6, .int x5_90), (5, .int x5_90), (0, .ref (ad 33)), (3, .int z.1), (4, .int z.2.1)]) hx hb d_Pt_tokenise_104 hl (by decide) rfl (fun ls hl => ?_)
      refine lv_iload hx hb d_Pt_tokenise_106 (lv_at hl 1 rfl) ?_
      refine lv_bipush (v := (92:Int32)) hx hb d_Pt_tokenise_108 (by decide) ?_
      refine lv_icmp_ne (tgt := 128) hx hb d_Pt_tokenise_110 (by decide) (fun c6 => ?_) (fun c6 => ?_)
      · replace h := o_ff c6 h
        refine lv_iload_n hx hb d_Pt_tokenise_128 rfl (lv_at hl 3 rfl) ?_
        refine lv_if_eq (tgt := 162) hx hb d_Pt_tokenise_129 (by decide) (fun c7 => ?_) (fun c7 => ?_)
        · replace h := o_tt c7 h
          refine va_ldcS (q := sd 10) hx hb hown (hE.2.2.2.2.2.1 _ _ _ C.2.2.2.2.2.2.2.2.2 ("SchemaJudge$Pattern", 60, "^$.*+?()[]{}|", 10) (List.mem_of_getElem? (i := 10) rfl)) d_Pt_tokenise_162 ?_
          refine lv_iload hx hb d_Pt_tokenise_164 (lv_at hl 1 rfl) ?_
          obtain ⟨q4, hq4, h⟩ := o_bd_some h
          refine o_S (st1 := [.int q4]) (w1 := (o_cw ad ca u60_rt u60_Sj u60_T0 u60_a1 u60_Rd u60_Pg (Pt_mk (Pt_tokens z.2.2) (Pt_characterCount z.2.2) (Pt_tokenCount z.2.2) ((Pt_position z.2.2) + (1:Int32)) (Pt_total z.2.2) (Pt_least z.2.2) (Pt_most z.2.2) (Pt_depth z.2.2) (Pt_blockStarts z.2.2) (Pt_branchStarts z.2.2) (Pt_jumps z.2.2) (Pt_sizesBefore z.2.2)) u60_Mk u60_Lk u60_Ck u60_Jd u60_Ld u60_Pr)) hE.1 C (c_Pt_isIn hE l n 10 rfl x5_90 u60_Sj u60_T0 u60_a1 u60_Rd u60_Pg (Pt_mk (Pt_tokens z.2.2) (Pt_characterCount z.2.2) (Pt_tokenCount z.2.2) ((Pt_position z.2.2) + (1:Int32)) (Pt_total z.2.2) (Pt_least z.2.2) (Pt_most z.2.2) (Pt_depth z.2.2) (Pt_blockStarts z.2.2) (Pt_branchStarts z.2.2) (Pt_jumps z.2.2) (Pt_sizesBefore z.2.2)) u60_Mk u60_Lk u60_Ck u60_Jd u60_Ld u60_Pr u60_rt hq4) hP (hDD _ _ _ _ _ _ _ _ _ _ _ _ _) hS hl.1 k_4_196 k_4_197 k_1_5 k_4_198 hs_Pt_isIn rfl rfl ⟨(Nat.le_of_ble_eq_true rfl), (Nat.le_of_ble_eq_true rfl)⟩ rfl (Nat.le_of_ble_eq_true rfl) ⟨Nat.zero_le _, Nat.zero_le _⟩ rfl d_Pt_tokenise_166 (fun H locs hP hS => ?_)
          refine lv_if_eq (tgt := 190) hx hb d_Pt_tokenise_169 (by decide) (fun c8 => ?_) (fun c8 => ?_)
          · replace h := o_tt c8 h
            exact w_Pt_tokenise_j190_1 hE C hDD n u60_a1 u60_Sj u60_T0 u60_Rd u60_Pg u60_Mk u60_Lk u60_Ck u60_Jd u60_Ld u60_Pr u60_rt z.1 z.2.1 x5_90 (Pt_mk (Pt_tokens z.2.2) (Pt_characterCount z.2.2) (Pt_tokenCount z.2.2) ((Pt_position z.2.2) + (1:Int32)) (Pt_total z.2.2) (Pt_least z.2.2) (Pt_most z.2.2) (Pt_depth z.2.2) (Pt_blockStarts z.2.2) (Pt_branchStarts z.2.2) (Pt_jumps z.2.2) (Pt_sizesBefore z.2.2)) h h0 h1 _ _ _ hP hS (lv_sub hl [2, 3, 4, 0] rfl)
          · replace h := o_ff c8 h
            refine lv_iload hx hb d_Pt_tokenise_172 (lv_at hl 1 rfl) ?_
            refine lv_bipush (v := (91:Int32)) hx hb d_Pt_tokenise_174 (by decide) ?_
            refine lv_icmp_ne (tgt := 183) hx hb d_Pt_tokenise_176 (by decide) (fun c10 => ?_) (fun c10 => ?_)
            · replace h := o_ff c10 h
              refine lv_iconst (v := (0:Int32)) hx hb d_Pt_tokenise_183 (by decide) ?_
              exact w_Pt_tokenise_j184_1 hE C hDD n u60_a1 u60_Sj u60_T0 u60_Rd u60_Pg u60_Mk u60_Lk u60_Ck u60_Jd u60_Ld u60_Pr u60_rt z.2.1 x5_90 (0:Int32) (Pt_mk (Pt_tokens z.2.2) (Pt_characterCount z.2.2) (Pt_tokenCount z.2.2) ((Pt_position z.2.2) + (1:Int32)) (Pt_total z.2.2) (Pt_least z.2.2) (Pt_most z.2.2) (Pt_depth z.2.2) (Pt_blockStarts z.2.2) (Pt_branchStarts z.2.2) (Pt_jumps z.2.2) (Pt_sizesBefore z.2.2)) h h0 h1 _ _ _ hP hS (lv_sub hl [2, 4, 1] rfl)
            · replace h := o_tt c10 h
              refine lv_iconst (v := (1:Int32)) hx hb d_Pt_tokenise_179 (by decide) ?_
              refine lv_goto (tgt := 184) hx hb d_Pt_tokenise_180 (by decide) ?_
              exact w_Pt_tokenise_j184_1 hE C hDD n u60_a1 u60_Sj u60_T0 u60_Rd u60_Pg u60_Mk u60_Lk u60_Ck u60_Jd u60_Ld u60_Pr u60_rt z.2.1 x5_90 (1:Int32) (Pt_mk (Pt_tokens z.2.2) (Pt_characterCount z.2.2) (Pt_tokenCount z.2.2) ((Pt_position z.2.2) + (1:Int32)) (Pt_total z.2.2) (Pt_least z.2.2) (Pt_most z.2.2) (Pt_depth z.2.2) (Pt_blockStarts z.2.2) (Pt_branchStarts z.2.2) (Pt_jumps z.2.2) (Pt_sizesBefore z.2.2)) h h0 h1 _ _ _ hP hS (lv_sub hl [2, 4, 1] rfl)
        · replace h := o_ff c7 h
          refine lv_iload hx hb d_Pt_tokenise_132 (lv_at hl 1 rfl) ?_
          refine lv_bipush (v := (93:Int32)) hx hb d_Pt_tokenise_134 (by decide) ?_
          refine lv_icmp_eq (tgt := 143) hx hb d_Pt_tokenise_136 (by decide) (fun c11 => ?_) (fun c11 => ?_)
          · replace h := o_tt c11 h
            refine lv_iconst (v := (0:Int32)) hx hb d_Pt_tokenise_143 (by decide) ?_
            exact w_Pt_tokenise_j144_1 hE C hDD n u60_a1 u60_Sj u60_T0 u60_Rd u60_Pg u60_Mk u60_Lk u60_Ck u60_Jd u60_Ld u60_Pr u60_rt z.2.1 x5_90 (0:Int32) (Pt_mk (Pt_tokens z.2.2) (Pt_characterCount z.2.2) (Pt_tokenCount z.2.2) ((Pt_position z.2.2) + (1:Int32)) (Pt_total z.2.2) (Pt_least z.2.2) (Pt_most z.2.2) (Pt_depth z.2.2) (Pt_blockStarts z.2.2) (Pt_branchStarts z.2.2) (Pt_jumps z.2.2) (Pt_sizesBefore z.2.2)) h h0 h1 _ _ _ hP hS (lv_sub hl [2, 4, 1] rfl)
          · replace h := o_ff c11 h
            refine lv_iconst (v := (1:Int32)) hx hb d_Pt_tokenise_139 (by decide) ?_
            refine lv_goto (tgt := 144) hx hb d_Pt_tokenise_140 (by decide) ?_
            exact w_Pt_tokenise_j144_1 hE C hDD n u60_a1 u60_Sj u60_T0 u60_Rd u60_Pg u60_Mk u60_Lk u60_Ck u60_Jd u60_Ld u60_Pr u60_rt z.2.1 x5_90 (1:Int32) (Pt_mk (Pt_tokens z.2.2) (Pt_characterCount z.2.2) (Pt_tokenCount z.2.2) ((Pt_position z.2.2) + (1:Int32)) (Pt_total z.2.2) (Pt_least z.2.2) (Pt_most z.2.2) (Pt_depth z.2.2) (Pt_blockStarts z.2.2) (Pt_branchStarts z.2.2) (Pt_jumps z.2.2) (Pt_sizesBefore z.2.2)) h h0 h1 _ _ _ hP hS (lv_sub hl [2, 4, 1] rfl)
      · replace h := o_tt c6 h
        refine lv_aload_n hx hb d_Pt_tokenise_113 rfl (lv_at hl 2 rfl) ?_
        refine lv_iload_n hx hb d_Pt_tokenise_114 rfl (lv_at hl 3 rfl) ?_
        obtain ⟨q5, hq5, h⟩ := o_bd_some h
        refine o_V (st1 := [.int q5.1]) (w1 := (o_cw ad ca u60_rt u60_Sj u60_T0 u60_a1 u60_Rd u60_Pg q5.2 u60_Mk u60_Lk u60_Ck u60_Jd u60_Ld u60_Pr)) hE.1 C (c_Pt_escape hE l n z.1 (Pt_mk (Pt_tokens z.2.2) (Pt_characterCount z.2.2) (Pt_tokenCount z.2.2) ((Pt_position z.2.2) + (1:Int32)) (Pt_total z.2.2) (Pt_least z.2.2) (Pt_most z.2.2) (Pt_depth z.2.2) (Pt_blockStarts z.2.2) (Pt_branchStarts z.2.2) (Pt_jumps z.2.2) (Pt_sizesBefore z.2.2)) u60_Sj u60_T0 u60_a1 u60_Rd u60_Pg u60_Mk u60_Lk u60_Ck u60_Jd u60_Ld u60_Pr u60_rt hq5) hP (hDD _ _ _ _ _ _ _ _ _ _ _ _ _) hS hl.1 rfl cw_33 k_4_120 k_4_122 k_s_25 k_1_5 k_4_123 hv_Pt_escape rfl rfl ⟨(Nat.le_of_ble_eq_true rfl), (Nat.le_of_ble_eq_true rfl)⟩ rfl (Nat.le_of_ble_eq_true rfl) ⟨Nat.zero_le _, Nat.zero_le _⟩ rfl d_Pt_tokenise_115 (fun H locs hP hS => ?_)
        refine lv_istore (lv' := [(6, .int q5.1), (5, .int x5_90), (0, .ref (ad 33)), (3, .int z.1), (4, .int z.2.1)]) hx hb d_Pt_tokenise_118 hl (by decide) rfl (fun ls hl => ?_)
        refine lv_iload hx hb d_Pt_tokenise_120 (lv_at hl 0 rfl) ?_
        refine lv_iconst (v := (-1:Int32)) hx hb d_Pt_tokenise_122 (by decide) ?_
        refine lv_icmp_ne (tgt := 190) hx hb d_Pt_tokenise_123 (by decide) (fun c13 => ?_) (fun c13 => ?_)
        · replace h := o_ff c13 h
          exact w_Pt_tokenise_j190_1 hE C hDD n u60_a1 u60_Sj u60_T0 u60_Rd u60_Pg u60_Mk u60_Lk u60_Ck u60_Jd u60_Ld u60_Pr u60_rt z.1 z.2.1 q5.1 q5.2 h h0 h1 _ _ _ hP hS (lv_sub hl [2, 3, 4, 0] rfl)
        · replace h := o_tt c13 h
          cases h
          exact h1 (Nat.succ_ne_zero 0) _ _ _ hP hS (lv_sub hl [] rfl)
set_option maxHeartbeats 4000000 in
set_option maxRecDepth 100000 in
theorem w_Pt_tokenise_j217_1 {E : (Nat → Prop) → State → Heap → Prop} {p : Program} {l : Launch} {e : Env} {s : State} {m : MethodId} {args : Array Value} {below : List Frame} {meth : Method} {c : Code} {D : va_G} {ad kd sd vd xd : Nat → Nat} {ca : Nat → ClassId} {A : Nat → Prop} (hE : o_EK E kd sd vd xd) (C : o_Cx E p s m args meth c D o_cls (o_tys ca) "SchemaJudge$Pattern" b_Pt_tokenise (some .boolean) 7 cc_Pt_tokenise A) (hDD : ∀ (rt : Nat) (Sj : SSJ) (T0 : STx) (T1 : STx) (Rd : SRd) (Pg : SPg) (Pt : SPt) (Mk : SMk) (Lk : SLk) (Ck : SCk) (Jd : SJd) (Ld : SLd) (Pr : SPr), va_D A (o_cw ad ca rt Sj T0 T1 Rd Pg Pt Mk Lk Ck Jd Ld Pr)) (n : Nat) (x3 : Int32) (a1 : STx) (Pt : SPt) (Sj : SSJ) (T0 : STx) (Rd : SRd) (Pg : SPg) (Mk : SMk) (Lk : SLk) (Ck : SCk) (Jd : SJd) (Ld : SLd) (Pr : SPr) (rt : Nat) {r : Int32 × SPt} (h : m_Pt_tokenise_j217 n x3 a1 Pt = some r) : o_At p l e rm_Pt_tokenise s m args below meth c (MQ below (o_Qx D o_cls (some (.int r.1)) (o_cw ad ca rt Sj T0 a1 Rd Pg r.2 Mk Lk Ck Jd Ld Pr) A) args s 0 0 A) o_cls D A 7 217 [] (o_cw ad ca rt Sj T0 a1 Rd Pg Pt Mk Lk Ck Jd Ld Pr) [(3, .int x3)] := by
  unfold m_Pt_tokenise_j217 at h
  intro H locs ls hP hS hl
  have C0 := C
  obtain ⟨hx, hb, -, -, -, hown, hts, hK, -, -⟩ := C0
  refine lv_iload_n hx hb d_Pt_tokenise_217 rfl (lv_at hl 0 rfl) ?_
  refine lv_if_ne (tgt := 225) hx hb d_Pt_tokenise_218 (by decide) (fun c14 => ?_) (fun c14 => ?_)
  · replace h := o_ff c14 h
    refine lv_iconst (v := (0:Int32)) hx hb d_Pt_tokenise_225 (by decide) ?_
    cases h
    exact o_rz (v := (0:Int32)) C o_nar0 hP hS d_Pt_tokenise_226
  · replace h := o_tt c14 h
    refine lv_iconst (v := (1:Int32)) hx hb d_Pt_tokenise_221 (by decide) ?_
    refine lv_goto (tgt := 226) hx hb d_Pt_tokenise_222 (by decide) ?_
    cases h
    exact o_rz (v := (1:Int32)) C o_nar1 hP hS d_Pt_tokenise_226
set_option maxHeartbeats 4000000 in
set_option maxRecDepth 100000 in
theorem c_Pt_tokenise_1 {E : (Nat → Prop) → State → Heap → Prop} {D : va_G} {ad kd sd vd xd : Nat → Nat} {ca : Nat → ClassId} (hE : o_EK E kd sd vd xd) (l : Launch) (n : Nat) (x2 : Int32) (a1 : STx) (Pt : SPt) (Sj : SSJ) (T0 : STx) (Rd : SRd) (Pg : SPg) (Mk : SMk) (Lk : SLk) (Ck : SCk) (Jd : SJd) (Ld : SLd) (Pr : SPr) (rt : Nat) {r : Int32 × SPt} (h : m_Pt_tokenise n x2 a1 Pt = some r) : o_Cn E l D o_cls (o_tys ca) y_Pt_tokenise cc_Pt_tokenise rm_Pt_tokenise [.ref (ad 33), .ref (ad 12), .int x2] (o_cw ad ca rt Sj T0 a1 Rd Pg Pt Mk Lk Ck Jd Ld Pr) (o_cw ad ca rt Sj T0 a1 Rd Pg r.2 Mk Lk Ck Jd Ld Pr) (some (.int r.1)) := by
  refine o_Cn_of (by decide) (Nat.le_of_ble_eq_true rfl) ?_
  intro p e s m below meth c A ls C hD hP hS hl
  have hDD : ∀ (rt : Nat) (Sj : SSJ) (T0 : STx) (T1 : STx) (Rd : SRd) (Pg : SPg) (Pt : SPt) (Mk : SMk) (Lk : SLk) (Ck : SCk) (Jd : SJd) (Ld : SLd) (Pr : SPr), va_D A (o_cw ad ca rt Sj T0 T1 Rd Pg Pt Mk Lk Ck Jd Ld Pr) := fun _ _ _ _ _ _ _ _ _ _ _ _ _ => o_D_map hD rfl
  have hl : lv_has ls 7 [(0, .ref (ad 33)), (1, .ref (ad 12)), (2, .int x2)] := hl
  unfold m_Pt_tokenise at h
  have C0 := C
  obtain ⟨hx, hb, -, -, -, hown, hts, hK, -, -⟩ := C0
  refine lv_aload_n hx hb d_Pt_tokenise_0 rfl (lv_at hl 0 rfl) ?_
  refine lv_aload_n hx hb d_Pt_tokenise_1 rfl (lv_at hl 1 rfl) ?_
  refine lv_iload_n hx hb d_Pt_tokenise_2 rfl (lv_at hl 2 rfl) ?_
  obtain ⟨q1, hq1, h⟩ := o_bd_some h
  refine o_V (st1 := [.int q1, .ref (ad 33)]) (w1 := (o_cw ad ca rt Sj T0 a1 Rd Pg Pt Mk Lk Ck Jd Ld Pr)) hE.1 C (c_Tx_size_1 hE l x2 a1 Sj T0 Rd Pg Pt Mk Lk Ck Jd Ld Pr rt hq1) hP (hDD _ _ _ _ _ _ _ _ _ _ _ _ _) hS hl.1 rfl cw_12 k_4_112 k_3_215 k_3_216 k_1_2 k_3_217 hv_Tx_size rfl rfl ⟨(Nat.le_of_ble_eq_true rfl), (Nat.le_of_ble_eq_true rfl)⟩ rfl (Nat.le_of_ble_eq_true rfl) ⟨Nat.zero_le _, Nat.zero_le _⟩ rfl d_Pt_tokenise_3 (fun H locs hP hS => ?_)
  refine lv_aload_n hx hb d_Pt_tokenise_6 rfl (lv_at hl 0 rfl) ?_
  refine o_get (v := .ref (ad 34)) C in_Pt hP 33 cw_33 rfl 1 (by decide) k_1_161 rfl rfl d_Pt_tokenise_7 ?_
  refine va_alen (v := (4000:Int32)) hx hb hK hP 34 28 cw_34 rfl rfl d_Pt_tokenise_10 ?_
  refine va_mmin hx hb (C.2.2.2.2.1.trans hl.1.symm) hown (hts _ k_4_113) (hts _ k_4_114) (hts _ k_1_26) (hts _ k_4_115) (Nat.le_of_ble_eq_true rfl) (Nat.le_of_ble_eq_true rfl) (Nat.zero_le _) (Nat.zero_le _) d_Pt_tokenise_11 ?_
  refine o_put (v := .int (if (4000:Int32) < q1 then (4000:Int32) else q1)) (ty := .int) (w1 := (o_cw ad ca rt Sj T0 a1 Rd Pg (Pt_mk (Pt_tokens Pt) (if (4000:Int32) < q1 then (4000:Int32) else q1) (Pt_tokenCount Pt) (Pt_position Pt) (Pt_total Pt) (Pt_least Pt) (Pt_most Pt) (Pt_depth Pt) (Pt_blockStarts Pt) (Pt_branchStarts Pt) (Pt_jumps Pt) (Pt_sizesBefore Pt)) Mk Lk Ck Jd Ld Pr)) C in_Pt t_Pt t_Pt_ok n_Pt hP (hDD _ _ _ _ _ _ _ _ _ _ _ _ _) hS 33 cw_33 rfl 2 (by decide) k_1_162 rfl rfl (by decide +kernel) rfl rfl (Nat.le_of_ble_eq_true rfl) rfl d_Pt_tokenise_14 (fun H locs hP hS => ?_)
  refine lv_iconst (v := (0:Int32)) hx hb d_Pt_tokenise_17 (by decide) ?_
  refine lv_istore_n (lv' := [(3, .int (0:Int32)), (0, .ref (ad 33)), (1, .ref (ad 12)), (2, .int x2)]) hx hb d_Pt_tokenise_18 rfl hl (by decide) rfl (fun ls hl => ?_)
  obtain ⟨q3, hq3, h⟩ := o_bd_some h
  refine o_sim2 (AH := fun zz => o_At p l e rm_Pt_tokenise s m _ below meth c _ o_cls D A 7 19 [] (o_cw ad ca rt Sj T0 a1 Rd Pg zz.2 Mk Lk Ck Jd Ld Pr) [(0, .ref (ad 33)), (1, .ref (ad 12)), (2, .int x2), (3, .int zz.1)]) (AX := fun qq => o_At p l e rm_Pt_tokenise s m _ below meth c _ o_cls D A 7 45 [] (o_cw ad ca rt Sj T0 a1 Rd Pg qq.2.2 Mk Lk Ck Jd Ld Pr) [(0, .ref (ad 33))]) (fun zz qq h h0 h1 => w_Pt_tokenise_b19_1 hE C hDD n x2 a1 Sj T0 Rd Pg Mk Lk Ck Jd Ld Pr rt zz qq h h0 h1) n _ q3 hq3 ?_ _ _ _ hP hS (lv_sub hl [1, 2, 3, 0] rfl)
  intro H locs ls hP hS hl
  refine lv_iconst (v := (0:Int32)) hx hb d_Pt_tokenise_45 (by decide) ?_
  refine lv_istore_n (lv' := [(3, .int (0:Int32)), (0, .ref (ad 33))]) hx hb d_Pt_tokenise_46 rfl hl (by decide) rfl (fun ls hl => ?_)
  refine lv_aload_n hx hb d_Pt_tokenise_47 rfl (lv_at hl 1 rfl) ?_
  refine lv_iconst (v := (0:Int32)) hx hb d_Pt_tokenise_48 (by decide) ?_
  refine o_put (v := .int (0:Int32)) (ty := .int) (w1 := (o_cw ad ca rt Sj T0 a1 Rd Pg (Pt_mk (Pt_tokens q3.2.2) (Pt_characterCount q3.2.2) (0:Int32) (Pt_position q3.2.2) (Pt_total q3.2.2) (Pt_least q3.2.2) (Pt_most q3.2.2) (Pt_depth q3.2.2) (Pt_blockStarts q3.2.2) (Pt_branchStarts q3.2.2) (Pt_jumps q3.2.2) (Pt_sizesBefore q3.2.2)) Mk Lk Ck Jd Ld Pr)) C in_Pt t_Pt t_Pt_ok n_Pt hP (hDD _ _ _ _ _ _ _ _ _ _ _ _ _) hS 33 cw_33 rfl 3 (by decide) k_1_163 rfl rfl (by decide +kernel) rfl rfl (Nat.le_of_ble_eq_true rfl) rfl d_Pt_tokenise_49 (fun H locs hP hS => ?_)
  refine lv_aload_n hx hb d_Pt_tokenise_52 rfl (lv_at hl 1 rfl) ?_
  refine lv_iconst (v := (0:Int32)) hx hb d_Pt_tokenise_53 (by decide) ?_
  refine o_put (v := .int (0:Int32)) (ty := .int) (w1 := (o_cw ad ca rt Sj T0 a1 Rd Pg (Pt_mk (Pt_tokens q3.2.2) (Pt_characterCount q3.2.2) (0:Int32) (0:Int32) (Pt_total q3.2.2) (Pt_least q3.2.2) (Pt_most q3.2.2) (Pt_depth q3.2.2) (Pt_blockStarts q3.2.2) (Pt_branchStarts q3.2.2) (Pt_jumps q3.2.2) (Pt_sizesBefore q3.2.2)) Mk Lk Ck Jd Ld Pr)) C in_Pt t_Pt t_Pt_ok n_Pt hP (hDD _ _ _ _ _ _ _ _ _ _ _ _ _) hS 33 cw_33 rfl 4 (by decide) k_1_164 rfl rfl (by decide +kernel) rfl rfl (Nat.le_of_ble_eq_true rfl) rfl d_Pt_tokenise_54 (fun H locs hP hS => ?_)
  refine lv_iconst (v := (0:Int32)) hx hb d_Pt_tokenise_57 (by decide) ?_
  refine lv_istore (lv' := [(4, .int (0:Int32)), (3, .int (0:Int32)), (0, .ref (ad 33))]) hx hb d_Pt_tokenise_58 hl (by decide) rfl (fun ls hl => ?_)
  obtain ⟨q6, hq6, h⟩ := o_bd_some h
  refine o_sim2 (AH := fun zz => o_At p l e rm_Pt_tokenise s m _ below meth c _ o_cls D A 7 60 [] (o_cw ad ca rt Sj T0 a1 Rd Pg zz.2.2 Mk Lk Ck Jd Ld Pr) [(0, .ref (ad 33)), (3, .int zz.1), (4, .int zz.2.1)]) (AX := fun qq => if qq.1 = 1 then o_At p l e rm_Pt_tokenise s m _ below meth c _ o_cls D A 7 126 [] (o_cw ad ca rt Sj T0 a1 Rd Pg qq.2.2.2 Mk Lk Ck Jd Ld Pr) [] else o_At p l e rm_Pt_tokenise s m _ below meth c _ o_cls D A 7 217 [] (o_cw ad ca rt Sj T0 a1 Rd Pg qq.2.2.2 Mk Lk Ck Jd Ld Pr) [(3, .int qq.2.1)]) (fun zz qq h h0 h1 => w_Pt_tokenise_b60_1 hE C hDD n a1 Sj T0 Rd Pg Mk Lk Ck Jd Ld Pr rt zz qq h h0 h1) n _ q6 hq6 ?_ _ _ _ hP hS (lv_sub hl [2, 1, 0] rfl)
  by_cases c15 : q6.1 = 1
  · replace h := o_tt c15 h
    refine o_ip c15 ?_
    intro H locs ls hP hS hl
    refine lv_iconst (v := (0:Int32)) hx hb d_Pt_tokenise_126 (by decide) ?_
    cases h
    exact o_rz (v := (0:Int32)) C o_nar0 hP hS d_Pt_tokenise_127
  replace h := o_ff c15 h
  refine o_in_ c15 ?_
  intro H locs ls hP hS hl
  exact w_Pt_tokenise_j217_1 hE C hDD n q6.2.1 a1 q6.2.2.2 Sj T0 Rd Pg Mk Lk Ck Jd Ld Pr rt h _ _ _ hP hS (lv_sub hl [0] rfl)
set_option maxHeartbeats 4000000 in
set_option maxRecDepth 100000 in
theorem w_SJ_matches_j22 {E : (Nat → Prop) → State → Heap → Prop} {p : Program} {l : Launch} {e : Env} {s : State} {m : MethodId} {args : Array Value} {below : List Frame} {meth : Method} {c : Code} {D : va_G} {ad kd sd vd xd : Nat → Nat} {ca : Nat → ClassId} {A : Nat → Prop} (hE : o_EK E kd sd vd xd) (C : o_Cx E p s m args meth c D o_cls (o_tys ca) "SchemaJudge" b_SJ_matches (some .boolean) 3 cc_SJ_matches A) (hDD : ∀ (rt : Nat) (Sj : SSJ) (T0 : STx) (T1 : STx) (Rd : SRd) (Pg : SPg) (Pt : SPt) (Mk : SMk) (Lk : SLk) (Ck : SCk) (Jd : SJd) (Ld : SLd) (Pr : SPr), va_D A (o_cw ad ca rt Sj T0 T1 Rd Pg Pt Mk Lk Ck Jd Ld Pr)) (hT : o_ET E) (htr : e.platform.stackTraces = false) (hne : c.exceptionTable.isEmpty = true) (n : Nat)  (T1 : STx) (Pg : SPg) (Pt : SPt) (Sj : SSJ) (T0 : STx) (Rd : SRd) (Mk : SMk) (Lk : SLk) (Ck : SCk) (Jd : SJd) (Ld : SLd) (Pr : SPr) (rt : Nat) {r : Nat × Int32 × SPg × SPt} (h : m_SJ_matches_j22 n T1 Pg Pt = some r) : o_At p l e rm_SJ_matches s m args below meth c (o_MQT below (o_Qt D o_cls r.1 (some (.int r.2.1)) (o_cw ad ca rt Sj T0 T1 Rd r.2.2.1 r.2.2.2 Mk Lk Ck Jd Ld Pr) A) args s 1 6 A) o_cls D A 3 22 [] (o_cw ad ca rt Sj T0 T1 Rd Pg Pt Mk Lk Ck Jd Ld Pr) [] := by
  unfold m_SJ_matches_j22 at h
  intro H locs ls hP hS hl
  have C0 := C
  obtain ⟨hx, hb, -, -, -, hown, hts, hK, -, -⟩ := C0
  cases h
  exact o_thr (tx := "no such value") (msg := sd 21) hE.1 hT htr hne C (by decide +kernel) fit_n at_JI k_2_172 k_2_173 k_1_17 (fun A U H h9 => hE.2.2.2.2.2.1 A U H h9 ("SchemaJudge", 154, "no such value", 21) (List.mem_of_getElem? (i := 29) rfl)) hP hS hl.1 (show o_exn 1 = _ from rfl) (show (1 : Nat) ≠ 0 by decide) (Nat.le_of_ble_eq_true rfl) (Nat.le_of_ble_eq_true rfl) (Nat.le_of_ble_eq_true rfl) (Nat.le_of_ble_eq_true rfl) d_SJ_matches_22 d_SJ_matches_25 d_SJ_matches_26 d_SJ_matches_28 d_SJ_matches_31
set_option maxHeartbeats 4000000 in
set_option maxRecDepth 100000 in
theorem w_SJ_matches_j56 {E : (Nat → Prop) → State → Heap → Prop} {p : Program} {l : Launch} {e : Env} {s : State} {m : MethodId} {args : Array Value} {below : List Frame} {meth : Method} {c : Code} {D : va_G} {ad kd sd vd xd : Nat → Nat} {ca : Nat → ClassId} {A : Nat → Prop} (hE : o_EK E kd sd vd xd) (C : o_Cx E p s m args meth c D o_cls (o_tys ca) "SchemaJudge" b_SJ_matches (some .boolean) 3 cc_SJ_matches A) (hDD : ∀ (rt : Nat) (Sj : SSJ) (T0 : STx) (T1 : STx) (Rd : SRd) (Pg : SPg) (Pt : SPt) (Mk : SMk) (Lk : SLk) (Ck : SCk) (Jd : SJd) (Ld : SLd) (Pr : SPr), va_D A (o_cw ad ca rt Sj T0 T1 Rd Pg Pt Mk Lk Ck Jd Ld Pr)) (hT : o_ET E) (htr : e.platform.stackTraces = false) (hne : c.exceptionTable.isEmpty = true) (n : Nat)  (T1 : STx) (Pg : SPg) (Pt : SPt) (Sj : SSJ) (T0 : STx) (Rd : SRd) (Mk : SMk) (Lk : SLk) (Ck : SCk) (Jd : SJd) (Ld : SLd) (Pr : SPr) (rt : Nat) {r : Nat × Int32 × SPg × SPt} (h : m_SJ_matches_j56 n T1 Pg Pt = some r) : o_At p l e rm_SJ_matches s m args below meth c (o_MQT below (o_Qt D o_cls r.1 (some (.int r.2.1)) (o_cw ad ca rt Sj T0 T1 Rd r.2.2.1 r.2.2.2 Mk Lk Ck Jd Ld Pr) A) args s 1 6 A) o_cls D A 3 56 [] (o_cw ad ca rt Sj T0 T1 Rd Pg Pt Mk Lk Ck Jd Ld Pr) [] := by
  unfold m_SJ_matches_j56 at h
  intro H locs ls hP hS hl
  have C0 := C
  obtain ⟨hx, hb, -, -, -, hown, hts, hK, -, -⟩ := C0
  cases h
  exact o_thr (tx := "no string") (msg := sd 22) hE.1 hT htr hne C (by decide +kernel) fit_n at_JG k_3_229 k_3_230 k_1_22 (fun A U H h9 => hE.2.2.2.2.2.1 A U H h9 ("SchemaJudge", 176, "no string", 22) (List.mem_of_getElem? (i := 30) rfl)) hP hS hl.1 (show o_exn 2 = _ from rfl) (show (2 : Nat) ≠ 0 by decide) (Nat.le_of_ble_eq_true rfl) (Nat.le_of_ble_eq_true rfl) (Nat.le_of_ble_eq_true rfl) (Nat.le_of_ble_eq_true rfl) d_SJ_matches_56 d_SJ_matches_59 d_SJ_matches_60 d_SJ_matches_62 d_SJ_matches_65
set_option maxHeartbeats 4000000 in
set_option maxRecDepth 100000 in
theorem w_SJ_matches_j91 {E : (Nat → Prop) → State → Heap → Prop} {p : Program} {l : Launch} {e : Env} {s : State} {m : MethodId} {args : Array Value} {below : List Frame} {meth : Method} {c : Code} {D : va_G} {ad kd sd vd xd : Nat → Nat} {ca : Nat → ClassId} {A : Nat → Prop} (hE : o_EK E kd sd vd xd) (C : o_Cx E p s m args meth c D o_cls (o_tys ca) "SchemaJudge" b_SJ_matches (some .boolean) 3 cc_SJ_matches A) (hDD : ∀ (rt : Nat) (Sj : SSJ) (T0 : STx) (T1 : STx) (Rd : SRd) (Pg : SPg) (Pt : SPt) (Mk : SMk) (Lk : SLk) (Ck : SCk) (Jd : SJd) (Ld : SLd) (Pr : SPr), va_D A (o_cw ad ca rt Sj T0 T1 Rd Pg Pt Mk Lk Ck Jd Ld Pr)) (hT : o_ET E) (htr : e.platform.stackTraces = false) (hne : c.exceptionTable.isEmpty = true) (n : Nat)  (T1 : STx) (Pg : SPg) (Pt : SPt) (Sj : SSJ) (T0 : STx) (Rd : SRd) (Mk : SMk) (Lk : SLk) (Ck : SCk) (Jd : SJd) (Ld : SLd) (Pr : SPr) (rt : Nat) {r : Nat × Int32 × SPg × SPt} (h : m_SJ_matches_j91 n T1 Pg Pt = some r) : o_At p l e rm_SJ_matches s m args below meth c (o_MQT below (o_Qt D o_cls r.1 (some (.int r.2.1)) (o_cw ad ca rt Sj T0 T1 Rd r.2.2.1 r.2.2.2 Mk Lk Ck Jd Ld Pr) A) args s 1 6 A) o_cls D A 3 91 [] (o_cw ad ca rt Sj T0 T1 Rd Pg Pt Mk Lk Ck Jd Ld Pr) [] := by
  unfold m_SJ_matches_j91 at h
  intro H locs ls hP hS hl
  have C0 := C
  obtain ⟨hx, hb, -, -, -, hown, hts, hK, -, -⟩ := C0
  cases h
  exact o_thr (tx := "no pattern") (msg := sd 23) hE.1 hT htr hne C (by decide +kernel) fit_n at_JG k_3_229 k_3_230 k_1_22 (fun A U H h9 => hE.2.2.2.2.2.1 A U H h9 ("SchemaJudge", 185, "no pattern", 23) (List.mem_of_getElem? (i := 31) rfl)) hP hS hl.1 (show o_exn 2 = _ from rfl) (show (2 : Nat) ≠ 0 by decide) (Nat.le_of_ble_eq_true rfl) (Nat.le_of_ble_eq_true rfl) (Nat.le_of_ble_eq_true rfl) (Nat.le_of_ble_eq_true rfl) d_SJ_matches_91 d_SJ_matches_94 d_SJ_matches_95 d_SJ_matches_97 d_SJ_matches_100
set_option maxHeartbeats 4000000 in
set_option maxRecDepth 100000 in
theorem c_SJ_matches {E : (Nat → Prop) → State → Heap → Prop} {D : va_G} {ad kd sd vd xd : Nat → Nat} {ca : Nat → ClassId} (hE : o_EK E kd sd vd xd) (hT : o_ET E) (l : Launch) (hfl : l.flags = pinnedFlags ++ [noTraceFlag]) (n : Nat) (x1 : Int32) (x2 : Int32) (T1 : STx) (Pg : SPg) (Pt : SPt) (Sj : SSJ) (T0 : STx) (Rd : SRd) (Mk : SMk) (Lk : SLk) (Ck : SCk) (Jd : SJd) (Ld : SLd) (Pr : SPr) (rt : Nat) {r : Nat × Int32 × SPg × SPt} (h : m_SJ_matches n x1 x2 T1 Pg Pt = some r) : o_Ct E l D o_cls (o_tys ca) y_SJ_matches cc_SJ_matches rm_SJ_matches [.ref (ad 0), .int x1, .int x2] (o_cw ad ca rt Sj T0 T1 Rd Pg Pt Mk Lk Ck Jd Ld Pr) (o_cw ad ca rt Sj T0 T1 Rd r.2.2.1 r.2.2.2 Mk Lk Ck Jd Ld Pr) r.1 (some (.int r.2.1)) := by
  refine o_Ct_of hfl (by decide) (Nat.le_of_ble_eq_true rfl) ?_
  intro p e s m below meth c A ls htr hne C hD hP hS hl
  have hDD : ∀ (rt : Nat) (Sj : SSJ) (T0 : STx) (T1 : STx) (Rd : SRd) (Pg : SPg) (Pt : SPt) (Mk : SMk) (Lk : SLk) (Ck : SCk) (Jd : SJd) (Ld : SLd) (Pr : SPr), va_D A (o_cw ad ca rt Sj T0 T1 Rd Pg Pt Mk Lk Ck Jd Ld Pr) := fun _ _ _ _ _ _ _ _ _ _ _ _ _ => o_D_map hD rfl
  have hl : lv_has ls 3 [(0, .ref (ad 0)), (1, .int x1), (2, .int x2)] := hl
  unfold m_SJ_matches at h
  have C0 := C
  obtain ⟨hx, hb, -, -, -, hown, hts, hK, -, -⟩ := C0
  refine lv_aload_n hx hb d_SJ_matches_0 rfl (lv_at hl 0 rfl) ?_
  refine o_get (v := .ref (ad 12)) C in_SJ hP 0 cw_0 rfl 1 (by decide) k_2_112 rfl rfl d_SJ_matches_1 ?_
  refine lv_iload_n hx hb d_SJ_matches_4 rfl (lv_at hl 1 rfl) ?_
  obtain ⟨q1, hq1, h⟩ := o_bd_some h
  refine o_V (st1 := [.int q1]) (w1 := (o_cw ad ca rt Sj T0 T1 Rd Pg Pt Mk Lk Ck Jd Ld Pr)) hE.1 C (c_Tx_has_1 hE l x1 T1 Sj T0 Rd Pg Pt Mk Lk Ck Jd Ld Pr rt hq1) hP (hDD _ _ _ _ _ _ _ _ _ _ _ _ _) hS hl.1 rfl cw_12 k_7_42 k_7_43 k_7_44 k_1_2 k_7_45 hv_Tx_has rfl rfl ⟨(Nat.le_of_ble_eq_true rfl), (Nat.le_of_ble_eq_true rfl)⟩ rfl (Nat.le_of_ble_eq_true rfl) ⟨Nat.zero_le _, Nat.zero_le _⟩ rfl d_SJ_matches_5 (fun H locs hP hS => ?_)
  refine lv_if_eq (tgt := 22) hx hb d_SJ_matches_8 (by decide) (fun c1 => ?_) (fun c1 => ?_)
  · replace h := o_tt c1 h
    exact w_SJ_matches_j22 hE C hDD hT htr hne n T1 Pg Pt Sj T0 Rd Mk Lk Ck Jd Ld Pr rt h _ _ _ hP hS (lv_sub hl [] rfl)
  · replace h := o_ff c1 h
    refine lv_aload_n hx hb d_SJ_matches_11 rfl (lv_at hl 0 rfl) ?_
    refine o_get (v := .ref (ad 12)) C in_SJ hP 0 cw_0 rfl 1 (by decide) k_2_112 rfl rfl d_SJ_matches_12 ?_
    refine lv_iload_n hx hb d_SJ_matches_15 rfl (lv_at hl 2 rfl) ?_
    obtain ⟨q2, hq2, h⟩ := o_bd_some h
    refine o_V (st1 := [.int q2]) (w1 := (o_cw ad ca rt Sj T0 T1 Rd Pg Pt Mk Lk Ck Jd Ld Pr)) hE.1 C (c_Tx_has_1 hE l x2 T1 Sj T0 Rd Pg Pt Mk Lk Ck Jd Ld Pr rt hq2) hP (hDD _ _ _ _ _ _ _ _ _ _ _ _ _) hS hl.1 rfl cw_12 k_7_42 k_7_43 k_7_44 k_1_2 k_7_45 hv_Tx_has rfl rfl ⟨(Nat.le_of_ble_eq_true rfl), (Nat.le_of_ble_eq_true rfl)⟩ rfl (Nat.le_of_ble_eq_true rfl) ⟨Nat.zero_le _, Nat.zero_le _⟩ rfl d_SJ_matches_16 (fun H locs hP hS => ?_)
    refine lv_if_ne (tgt := 32) hx hb d_SJ_matches_19 (by decide) (fun c2 => ?_) (fun c2 => ?_)
    · replace h := o_ff c2 h
      refine lv_aload_n hx hb d_SJ_matches_32 rfl (lv_at hl 0 rfl) ?_
      refine o_get (v := .ref (ad 12)) C in_SJ hP 0 cw_0 rfl 1 (by decide) k_2_112 rfl rfl d_SJ_matches_33 ?_
      refine lv_iload_n hx hb d_SJ_matches_36 rfl (lv_at hl 1 rfl) ?_
      obtain ⟨q3, hq3, h⟩ := o_bd_some h
      refine o_V (st1 := [.int q3]) (w1 := (o_cw ad ca rt Sj T0 T1 Rd Pg Pt Mk Lk Ck Jd Ld Pr)) hE.1 C (c_Tx_kind_1 hE l x1 T1 Sj T0 Rd Pg Pt Mk Lk Ck Jd Ld Pr rt hq3) hP (hDD _ _ _ _ _ _ _ _ _ _ _ _ _) hS hl.1 rfl cw_12 k_7_47 k_4_50 k_4_51 k_1_2 k_4_52 hv_Tx_kind rfl rfl ⟨(Nat.le_of_ble_eq_true rfl), (Nat.le_of_ble_eq_true rfl)⟩ rfl (Nat.le_of_ble_eq_true rfl) ⟨Nat.zero_le _, Nat.zero_le _⟩ rfl d_SJ_matches_37 (fun H locs hP hS => ?_)
      refine lv_iconst (v := (4:Int32)) hx hb d_SJ_matches_40 (by decide) ?_
      refine lv_icmp_ne (tgt := 56) hx hb d_SJ_matches_41 (by decide) (fun c3 => ?_) (fun c3 => ?_)
      · replace h := o_ff c3 h
        exact w_SJ_matches_j56 hE C hDD hT htr hne n T1 Pg Pt Sj T0 Rd Mk Lk Ck Jd Ld Pr rt h _ _ _ hP hS (lv_sub hl [] rfl)
      · replace h := o_tt c3 h
        refine lv_aload_n hx hb d_SJ_matches_44 rfl (lv_at hl 0 rfl) ?_
        refine o_get (v := .ref (ad 12)) C in_SJ hP 0 cw_0 rfl 1 (by decide) k_2_112 rfl rfl d_SJ_matches_45 ?_
        refine lv_iload_n hx hb d_SJ_matches_48 rfl (lv_at hl 2 rfl) ?_
        obtain ⟨q4, hq4, h⟩ := o_bd_some h
        refine o_V (st1 := [.int q4]) (w1 := (o_cw ad ca rt Sj T0 T1 Rd Pg Pt Mk Lk Ck Jd Ld Pr)) hE.1 C (c_Tx_kind_1 hE l x2 T1 Sj T0 Rd Pg Pt Mk Lk Ck Jd Ld Pr rt hq4) hP (hDD _ _ _ _ _ _ _ _ _ _ _ _ _) hS hl.1 rfl cw_12 k_7_47 k_4_50 k_4_51 k_1_2 k_4_52 hv_Tx_kind rfl rfl ⟨(Nat.le_of_ble_eq_true rfl), (Nat.le_of_ble_eq_true rfl)⟩ rfl (Nat.le_of_ble_eq_true rfl) ⟨Nat.zero_le _, Nat.zero_le _⟩ rfl d_SJ_matches_49 (fun H locs hP hS => ?_)
        refine lv_iconst (v := (4:Int32)) hx hb d_SJ_matches_52 (by decide) ?_
        refine lv_icmp_eq (tgt := 66) hx hb d_SJ_matches_53 (by decide) (fun c4 => ?_) (fun c4 => ?_)
        · replace h := o_tt c4 h
          refine lv_aload_n hx hb d_SJ_matches_66 rfl (lv_at hl 0 rfl) ?_
          refine o_get (v := .ref (ad 33)) C in_SJ hP 0 cw_0 rfl 4 (by decide) k_2_115 rfl rfl d_SJ_matches_67 ?_
          refine lv_aload_n hx hb d_SJ_matches_70 rfl (lv_at hl 0 rfl) ?_
          refine o_get (v := .ref (ad 12)) C in_SJ hP 0 cw_0 rfl 1 (by decide) k_2_112 rfl rfl d_SJ_matches_71 ?_
          refine lv_iload_n hx hb d_SJ_matches_74 rfl (lv_at hl 2 rfl) ?_
          obtain ⟨q5, hq5, h⟩ := o_bd_some h
          refine o_V (st1 := [.int q5.1]) (w1 := (o_cw ad ca rt Sj T0 T1 Rd Pg q5.2 Mk Lk Ck Jd Ld Pr)) hE.1 C (c_Pt_tokenise_1 hE l n x2 T1 Pt Sj T0 Rd Pg Mk Lk Ck Jd Ld Pr rt hq5) hP (hDD _ _ _ _ _ _ _ _ _ _ _ _ _) hS hl.1 rfl cw_33 k_7_68 k_4_109 k_4_110 k_1_5 k_4_111 hv_Pt_tokenise rfl rfl ⟨(Nat.le_of_ble_eq_true rfl), (Nat.le_of_ble_eq_true rfl)⟩ rfl (Nat.le_of_ble_eq_true rfl) ⟨Nat.zero_le _, Nat.zero_le _⟩ rfl d_SJ_matches_75 (fun H locs hP hS => ?_)
          refine lv_if_eq (tgt := 91) hx hb d_SJ_matches_78 (by decide) (fun c5 => ?_) (fun c5 => ?_)
          · replace h := o_tt c5 h
            exact w_SJ_matches_j91 hE C hDD hT htr hne n T1 Pg q5.2 Sj T0 Rd Mk Lk Ck Jd Ld Pr rt h _ _ _ hP hS (lv_sub hl [] rfl)
          · replace h := o_ff c5 h
            refine lv_aload_n hx hb d_SJ_matches_81 rfl (lv_at hl 0 rfl) ?_
            refine o_get (v := .ref (ad 33)) C in_SJ hP 0 cw_0 rfl 4 (by decide) k_2_115 rfl rfl d_SJ_matches_82 ?_
            obtain ⟨q6, hq6, h⟩ := o_bd_some h
            refine o_V (st1 := [.int q6.1]) (w1 := (o_cw ad ca rt Sj T0 T1 Rd q6.2.1 q6.2.2 Mk Lk Ck Jd Ld Pr)) hE.1 C (c_Pt_parse hE l n Pg q5.2 Sj T0 T1 Rd Mk Lk Ck Jd Ld Pr rt hq6) hP (hDD _ _ _ _ _ _ _ _ _ _ _ _ _) hS hl.1 rfl cw_33 k_7_69 k_4_203 k_4_204 k_1_5 k_4_205 hv_Pt_parse rfl rfl ⟨(Nat.le_of_ble_eq_true rfl), (Nat.le_of_ble_eq_true rfl)⟩ rfl (Nat.le_of_ble_eq_true rfl) ⟨Nat.zero_le _, Nat.zero_le _⟩ rfl d_SJ_matches_85 (fun H locs hP hS => ?_)
            refine lv_if_ne (tgt := 101) hx hb d_SJ_matches_88 (by decide) (fun c6 => ?_) (fun c6 => ?_)
            · replace h := o_ff c6 h
              refine lv_aload_n hx hb d_SJ_matches_101 rfl (lv_at hl 0 rfl) ?_
              refine o_get (v := .ref (ad 25)) C in_SJ hP 0 cw_0 rfl 3 (by decide) k_2_114 rfl rfl d_SJ_matches_102 ?_
              refine lv_aload_n hx hb d_SJ_matches_105 rfl (lv_at hl 0 rfl) ?_
              refine o_get (v := .ref (ad 12)) C in_SJ hP 0 cw_0 rfl 1 (by decide) k_2_112 rfl rfl d_SJ_matches_106 ?_
              refine lv_iload_n hx hb d_SJ_matches_109 rfl (lv_at hl 1 rfl) ?_
              obtain ⟨q7, hq7, h⟩ := o_bd_some h
              refine o_V (st1 := [.int q7.1]) (w1 := (o_cw ad ca rt Sj T0 T1 Rd q7.2 q6.2.2 Mk Lk Ck Jd Ld Pr)) hE.1 C (c_Pg_finds_1 hE l n x1 T1 q6.2.1 Sj T0 Rd q6.2.2 Mk Lk Ck Jd Ld Pr rt hq7) hP (hDD _ _ _ _ _ _ _ _ _ _ _ _ _) hS hl.1 rfl cw_25 k_7_71 k_6_86 k_6_87 k_1_4 k_6_88 hv_Pg_finds rfl rfl ⟨(Nat.le_of_ble_eq_true rfl), (Nat.le_of_ble_eq_true rfl)⟩ rfl (Nat.le_of_ble_eq_true rfl) ⟨Nat.zero_le _, Nat.zero_le _⟩ rfl d_SJ_matches_110 (fun H locs hP hS => ?_)
              obtain ⟨g7, h⟩ := o_gd_some h
              cases h
              exact o_ret0 (o_rz C (o_zb_nar g7) hP hS d_SJ_matches_113)
            · replace h := o_tt c6 h
              exact w_SJ_matches_j91 hE C hDD hT htr hne n T1 q6.2.1 q6.2.2 Sj T0 Rd Mk Lk Ck Jd Ld Pr rt h _ _ _ hP hS (lv_sub hl [] rfl)
        · replace h := o_ff c4 h
          exact w_SJ_matches_j56 hE C hDD hT htr hne n T1 Pg Pt Sj T0 Rd Mk Lk Ck Jd Ld Pr rt h _ _ _ hP hS (lv_sub hl [] rfl)
    · replace h := o_tt c2 h
      exact w_SJ_matches_j22 hE C hDD hT htr hne n T1 Pg Pt Sj T0 Rd Mk Lk Ck Jd Ld Pr rt h _ _ _ hP hS (lv_sub hl [] rfl)
set_option maxHeartbeats 4000000 in
set_option maxRecDepth 100000 in
theorem c_SJ_count {E : (Nat → Prop) → State → Heap → Prop} {D : va_G} {ad kd sd vd xd : Nat → Nat} {ca : Nat → ClassId} (hE : o_EK E kd sd vd xd) (hT : o_ET E) (l : Launch) (hfl : l.flags = pinnedFlags ++ [noTraceFlag]) (x1 : Int32) (T0 : STx) (T1 : STx) (Jd : SJd) (Sj : SSJ) (Rd : SRd) (Pg : SPg) (Pt : SPt) (Mk : SMk) (Lk : SLk) (Ck : SCk) (Ld : SLd) (Pr : SPr) (rt : Nat) {r : Nat × Int32} (h : m_SJ_count x1 T0 T1 Jd = some r) : o_Ct E l D o_cls (o_tys ca) y_SJ_count cc_SJ_count rm_SJ_count [.ref (ad 0), .int x1] (o_cw ad ca rt Sj T0 T1 Rd Pg Pt Mk Lk Ck Jd Ld Pr) (o_cw ad ca rt Sj T0 T1 Rd Pg Pt Mk Lk Ck Jd Ld Pr) r.1 (some (.int r.2)) := by
  refine o_Ct_of hfl (by decide) (Nat.le_of_ble_eq_true rfl) ?_
  intro p e s m below meth c A ls htr hne C hD hP hS hl
  have hDD : ∀ (rt : Nat) (Sj : SSJ) (T0 : STx) (T1 : STx) (Rd : SRd) (Pg : SPg) (Pt : SPt) (Mk : SMk) (Lk : SLk) (Ck : SCk) (Jd : SJd) (Ld : SLd) (Pr : SPr), va_D A (o_cw ad ca rt Sj T0 T1 Rd Pg Pt Mk Lk Ck Jd Ld Pr) := fun _ _ _ _ _ _ _ _ _ _ _ _ _ => o_D_map hD rfl
  have hl : lv_has ls 2 [(0, .ref (ad 0)), (1, .int x1)] := hl
  unfold m_SJ_count at h
  have C0 := C
  obtain ⟨hx, hb, -, -, -, hown, hts, hK, -, -⟩ := C0
  refine lv_iload_n hx hb d_SJ_count_0 rfl (lv_at hl 1 rfl) ?_
  by_cases c1 : x1 = (0:Int32)
  · replace h := o_tt c1 h
    refine lv_tableIn (off := 31) (tgt := 32) hx hb d_SJ_count_1 (by rw [c1]; decide) (by rw [c1]; decide) (by rw [c1]; rfl) (by decide) ?_
    refine lv_aload_n hx hb d_SJ_count_32 rfl (lv_at hl 0 rfl) ?_
    refine o_get (v := .ref (ad 1)) C in_SJ hP 0 cw_0 rfl 0 (by decide) k_2_111 rfl rfl d_SJ_count_33 ?_
    obtain ⟨q1, hq1, h⟩ := o_bd_some h
    refine o_V (st1 := [.int q1]) (w1 := (o_cw ad ca rt Sj T0 T1 Rd Pg Pt Mk Lk Ck Jd Ld Pr)) hE.1 C (c_Tx_total_0 hE l T0 Sj T1 Rd Pg Pt Mk Lk Ck Jd Ld Pr rt hq1) hP (hDD _ _ _ _ _ _ _ _ _ _ _ _ _) hS hl.1 rfl cw_1 k_4_5 k_4_6 k_4_7 k_1_2 k_4_8 hv_Tx_total rfl rfl ⟨(Nat.le_of_ble_eq_true rfl), (Nat.le_of_ble_eq_true rfl)⟩ rfl (Nat.le_of_ble_eq_true rfl) ⟨Nat.zero_le _, Nat.zero_le _⟩ rfl d_SJ_count_36 (fun H locs hP hS => ?_)
    cases h
    exact o_ret0 (o_ri C hP hS d_SJ_count_39)
  replace h := o_ff c1 h
  by_cases c2 : x1 = (1:Int32)
  · replace h := o_tt c2 h
    refine lv_tableIn (off := 39) (tgt := 40) hx hb d_SJ_count_1 (by rw [c2]; decide) (by rw [c2]; decide) (by rw [c2]; rfl) (by decide) ?_
    refine lv_aload_n hx hb d_SJ_count_40 rfl (lv_at hl 0 rfl) ?_
    refine o_get (v := .ref (ad 12)) C in_SJ hP 0 cw_0 rfl 1 (by decide) k_2_112 rfl rfl d_SJ_count_41 ?_
    obtain ⟨q2, hq2, h⟩ := o_bd_some h
    refine o_V (st1 := [.int q2]) (w1 := (o_cw ad ca rt Sj T0 T1 Rd Pg Pt Mk Lk Ck Jd Ld Pr)) hE.1 C (c_Tx_total_1 hE l T1 Sj T0 Rd Pg Pt Mk Lk Ck Jd Ld Pr rt hq2) hP (hDD _ _ _ _ _ _ _ _ _ _ _ _ _) hS hl.1 rfl cw_12 k_4_5 k_4_6 k_4_7 k_1_2 k_4_8 hv_Tx_total rfl rfl ⟨(Nat.le_of_ble_eq_true rfl), (Nat.le_of_ble_eq_true rfl)⟩ rfl (Nat.le_of_ble_eq_true rfl) ⟨Nat.zero_le _, Nat.zero_le _⟩ rfl d_SJ_count_44 (fun H locs hP hS => ?_)
    cases h
    exact o_ret0 (o_ri C hP hS d_SJ_count_47)
  replace h := o_ff c2 h
  by_cases c3 : x1 = (2:Int32)
  · replace h := o_tt c3 h
    refine lv_tableIn (off := 47) (tgt := 48) hx hb d_SJ_count_1 (by rw [c3]; decide) (by rw [c3]; decide) (by rw [c3]; rfl) (by decide) ?_
    refine lv_aload_n hx hb d_SJ_count_48 rfl (lv_at hl 0 rfl) ?_
    refine o_get (v := .ref (ad 49)) C in_SJ hP 0 cw_0 rfl 6 (by decide) k_2_117 rfl rfl d_SJ_count_49 ?_
    obtain ⟨q3, hq3, h⟩ := o_bd_some h
    refine o_V (st1 := [.int q3]) (w1 := (o_cw ad ca rt Sj T0 T1 Rd Pg Pt Mk Lk Ck Jd Ld Pr)) hE.1 C (c_Jd_evaluatedSchemas hE l Jd Sj T0 T1 Rd Pg Pt Mk Lk Ck Ld Pr rt hq3) hP (hDD _ _ _ _ _ _ _ _ _ _ _ _ _) hS hl.1 rfl cw_49 k_7_79 k_7_80 k_7_81 k_1_9 k_7_82 hv_Jd_evaluatedSchemas rfl rfl ⟨(Nat.le_of_ble_eq_true rfl), (Nat.le_of_ble_eq_true rfl)⟩ rfl (Nat.le_of_ble_eq_true rfl) ⟨Nat.zero_le _, Nat.zero_le _⟩ rfl d_SJ_count_52 (fun H locs hP hS => ?_)
    cases h
    exact o_ret0 (o_ri C hP hS d_SJ_count_55)
  replace h := o_ff c3 h
  by_cases c4 : x1 = (3:Int32)
  · replace h := o_tt c4 h
    refine lv_tableIn (off := 55) (tgt := 56) hx hb d_SJ_count_1 (by rw [c4]; decide) (by rw [c4]; decide) (by rw [c4]; rfl) (by decide) ?_
    refine lv_aload_n hx hb d_SJ_count_56 rfl (lv_at hl 0 rfl) ?_
    refine o_get (v := .ref (ad 49)) C in_SJ hP 0 cw_0 rfl 6 (by decide) k_2_117 rfl rfl d_SJ_count_57 ?_
    obtain ⟨q4, hq4, h⟩ := o_bd_some h
    refine o_V (st1 := [.int q4]) (w1 := (o_cw ad ca rt Sj T0 T1 Rd Pg Pt Mk Lk Ck Jd Ld Pr)) hE.1 C (c_Jd_deepest hE l Jd Sj T0 T1 Rd Pg Pt Mk Lk Ck Ld Pr rt hq4) hP (hDD _ _ _ _ _ _ _ _ _ _ _ _ _) hS hl.1 rfl cw_49 k_7_83 k_7_84 k_7_85 k_1_9 k_7_86 hv_Jd_deepest rfl rfl ⟨(Nat.le_of_ble_eq_true rfl), (Nat.le_of_ble_eq_true rfl)⟩ rfl (Nat.le_of_ble_eq_true rfl) ⟨Nat.zero_le _, Nat.zero_le _⟩ rfl d_SJ_count_60 (fun H locs hP hS => ?_)
    cases h
    exact o_ret0 (o_ri C hP hS d_SJ_count_63)
  replace h := o_ff c4 h
  refine lv_tableOut (tgt := 64) hx hb d_SJ_count_1 (by have ec1 := o_ne_i (n := 0) (by decide) c1; have ec2 := o_ne_i (n := 1) (by decide) c2; have ec3 := o_ne_i (n := 2) (by decide) c3; have ec4 := o_ne_i (n := 3) (by decide) c4; omega) (by decide) ?_
  cases h
  exact o_thr (tx := "no such count") (msg := sd 24) hE.1 hT htr hne C (by decide +kernel) fit_n at_JG k_3_229 k_3_230 k_1_22 (fun A U H h9 => hE.2.2.2.2.2.1 A U H h9 ("SchemaJudge", 196, "no such count", 24) (List.mem_of_getElem? (i := 32) rfl)) hP hS hl.1 (show o_exn 2 = _ from rfl) (show (2 : Nat) ≠ 0 by decide) (Nat.le_of_ble_eq_true rfl) (Nat.le_of_ble_eq_true rfl) (Nat.le_of_ble_eq_true rfl) (Nat.le_of_ble_eq_true rfl) d_SJ_count_64 d_SJ_count_67 d_SJ_count_68 d_SJ_count_70 d_SJ_count_73
