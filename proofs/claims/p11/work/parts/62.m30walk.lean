set_option maxHeartbeats 4000000 in
set_option maxRecDepth 100000 in
theorem c_Rd_hasRoom {E : (Nat → Prop) → State → Heap → Prop} {D : va_G} {ad kd sd vd xd : Nat → Nat} {ca : Nat → ClassId} (hE : o_EK E kd sd vd xd) (l : Launch)  (Rd : SRd) (Sj : SSJ) (T0 : STx) (T1 : STx) (Pg : SPg) (Pt : SPt) (Mk : SMk) (Lk : SLk) (Ck : SCk) (Jd : SJd) (Ld : SLd) (Pr : SPr) (rt : Nat) {r : Int32} (h : m_Rd_hasRoom Rd = some r) : o_Cn E l D o_cls (o_tys ca) y_Rd_hasRoom cc_Rd_hasRoom rm_Rd_hasRoom [.ref (ad 23)] (o_cw ad ca rt Sj T0 T1 Rd Pg Pt Mk Lk Ck Jd Ld Pr) (o_cw ad ca rt Sj T0 T1 Rd Pg Pt Mk Lk Ck Jd Ld Pr) (some (.int r)) := by
  refine o_Cn_of (by decide) (Nat.le_of_ble_eq_true rfl) ?_
  intro p e s m below meth c A ls C hD hP hS hl
  have hDD : ∀ (rt : Nat) (Sj : SSJ) (T0 : STx) (T1 : STx) (Rd : SRd) (Pg : SPg) (Pt : SPt) (Mk : SMk) (Lk : SLk) (Ck : SCk) (Jd : SJd) (Ld : SLd) (Pr : SPr), va_D A (o_cw ad ca rt Sj T0 T1 Rd Pg Pt Mk Lk Ck Jd Ld Pr) := fun _ _ _ _ _ _ _ _ _ _ _ _ _ => o_D_map hD rfl
  have hl : lv_has ls 1 [(0, .ref (ad 23))] := hl
  unfold m_Rd_hasRoom at h
  have C0 := C
  obtain ⟨hx, hb, -, -, -, hown, hts, hK, -, -⟩ := C0
  refine lv_aload_n hx hb d_Rd_hasRoom_0 rfl (lv_at hl 0 rfl) ?_
  refine o_get (v := .int (Rd_wordCount Rd)) C in_Rd hP 23 cw_23 rfl 1 (by decide) k_1_95 rfl rfl d_Rd_hasRoom_1 ?_
  refine lv_iconst (v := (5:Int32)) hx hb d_Rd_hasRoom_4 (by decide) ?_
  refine lv_iadd hx hb d_Rd_hasRoom_5 ?_
  refine lv_sipush (v := (2050:Int32)) hx hb d_Rd_hasRoom_6 (by decide) ?_
  refine lv_icmp_gt (tgt := 16) hx hb d_Rd_hasRoom_9 (by decide) (fun c1 => ?_) (fun c1 => ?_)
  · replace h := o_tt c1 h
    refine lv_iconst (v := (0:Int32)) hx hb d_Rd_hasRoom_16 (by decide) ?_
    cases h
    exact o_rz (v := (0:Int32)) C o_nar0 hP hS d_Rd_hasRoom_17
  · replace h := o_ff c1 h
    refine lv_iconst (v := (1:Int32)) hx hb d_Rd_hasRoom_12 (by decide) ?_
    refine lv_goto (tgt := 17) hx hb d_Rd_hasRoom_13 (by decide) ?_
    cases h
    exact o_rz (v := (1:Int32)) C o_nar1 hP hS d_Rd_hasRoom_17
set_option maxHeartbeats 4000000 in
set_option maxRecDepth 100000 in
theorem c_Rd_addWord {E : (Nat → Prop) → State → Heap → Prop} {D : va_G} {ad kd sd vd xd : Nat → Nat} {ca : Nat → ClassId} (hE : o_EK E kd sd vd xd) (l : Launch) (x1 : Int32) (Rd : SRd) (Sj : SSJ) (T0 : STx) (T1 : STx) (Pg : SPg) (Pt : SPt) (Mk : SMk) (Lk : SLk) (Ck : SCk) (Jd : SJd) (Ld : SLd) (Pr : SPr) (rt : Nat) {r : SRd} (h : m_Rd_addWord x1 Rd = some r) : o_Cn E l D o_cls (o_tys ca) y_Rd_addWord cc_Rd_addWord rm_Rd_addWord [.ref (ad 23), .int x1] (o_cw ad ca rt Sj T0 T1 Rd Pg Pt Mk Lk Ck Jd Ld Pr) (o_cw ad ca rt Sj T0 T1 r Pg Pt Mk Lk Ck Jd Ld Pr) none := by
  refine o_Cn_of (by decide) (Nat.le_of_ble_eq_true rfl) ?_
  intro p e s m below meth c A ls C hD hP hS hl
  have hDD : ∀ (rt : Nat) (Sj : SSJ) (T0 : STx) (T1 : STx) (Rd : SRd) (Pg : SPg) (Pt : SPt) (Mk : SMk) (Lk : SLk) (Ck : SCk) (Jd : SJd) (Ld : SLd) (Pr : SPr), va_D A (o_cw ad ca rt Sj T0 T1 Rd Pg Pt Mk Lk Ck Jd Ld Pr) := fun _ _ _ _ _ _ _ _ _ _ _ _ _ => o_D_map hD rfl
  have hl : lv_has ls 2 [(0, .ref (ad 23)), (1, .int x1)] := hl
  unfold m_Rd_addWord at h
  have C0 := C
  obtain ⟨hx, hb, -, -, -, hown, hts, hK, -, -⟩ := C0
  refine lv_aload_n hx hb d_Rd_addWord_0 rfl (lv_at hl 0 rfl) ?_
  refine o_get (v := .int (Rd_wordCount Rd)) C in_Rd hP 23 cw_23 rfl 1 (by decide) k_1_95 rfl rfl d_Rd_addWord_1 ?_
  refine lv_aload_n hx hb d_Rd_addWord_4 rfl (lv_at hl 0 rfl) ?_
  refine o_get (v := .ref (ad 24)) C in_Rd hP 23 cw_23 rfl 0 (by decide) k_1_94 rfl rfl d_Rd_addWord_5 ?_
  refine va_alen (v := (2050:Int32)) hx hb hK hP 24 20 cw_24 rfl rfl d_Rd_addWord_8 ?_
  refine lv_icmp_ge (tgt := 32) hx hb d_Rd_addWord_9 (by decide) (fun c1 => ?_) (fun c1 => ?_)
  · replace h := o_tt c1 h
    cases h
    exact o_rv C hP hS d_Rd_addWord_32
  · replace h := o_ff c1 h
    refine lv_aload_n hx hb d_Rd_addWord_12 rfl (lv_at hl 0 rfl) ?_
    refine o_get (v := .ref (ad 24)) C in_Rd hP 23 cw_23 rfl 0 (by decide) k_1_94 rfl rfl d_Rd_addWord_13 ?_
    refine lv_aload_n hx hb d_Rd_addWord_16 rfl (lv_at hl 0 rfl) ?_
    refine o_get (v := .int (Rd_wordCount Rd)) C in_Rd hP 23 cw_23 rfl 1 (by decide) k_1_95 rfl rfl d_Rd_addWord_17 ?_
    refine lv_iload_n hx hb d_Rd_addWord_20 rfl (lv_at hl 1 rfl) ?_
    obtain ⟨g2, h⟩ := o_gd_some h
    refine o_iast (f := (Rd_words Rd)) (w1 := (o_cw ad ca rt Sj T0 T1 (Rd_mk (upd (Rd_words Rd) (Rd_wordCount Rd).toNatClampNeg x1) (Rd_wordCount Rd) (Rd_position Rd) (Rd_limit Rd) (Rd_wrongPlace Rd)) Pg Pt Mk Lk Ck Jd Ld Pr)) C hP (hDD _ _ _ _ _ _ _ _ _ _ _ _ _) hS 24 20 cw_24 rfl g2 rfl d_Rd_addWord_21 (fun H locs hP hS => ?_)
    refine lv_aload_n hx hb d_Rd_addWord_22 rfl (lv_at hl 0 rfl) ?_
    refine lv_dup hx hb d_Rd_addWord_23 rfl ?_
    refine o_get (v := .int (Rd_wordCount Rd)) C in_Rd hP 23 cw_23 rfl 1 (by decide) k_1_95 rfl rfl d_Rd_addWord_24 ?_
    refine lv_iconst (v := (1:Int32)) hx hb d_Rd_addWord_27 (by decide) ?_
    refine lv_iadd hx hb d_Rd_addWord_28 ?_
    refine o_put (v := .int ((Rd_wordCount Rd) + (1:Int32))) (ty := .int) (w1 := (o_cw ad ca rt Sj T0 T1 (Rd_mk (upd (Rd_words Rd) (Rd_wordCount Rd).toNatClampNeg x1) ((Rd_wordCount Rd) + (1:Int32)) (Rd_position Rd) (Rd_limit Rd) (Rd_wrongPlace Rd)) Pg Pt Mk Lk Ck Jd Ld Pr)) C in_Rd t_Rd t_Rd_ok n_Rd hP (hDD _ _ _ _ _ _ _ _ _ _ _ _ _) hS 23 cw_23 rfl 1 (by decide) k_1_95 rfl rfl (by decide +kernel) rfl rfl (Nat.le_of_ble_eq_true rfl) rfl d_Rd_addWord_29 (fun H locs hP hS => ?_)
    cases h
    exact o_rv C hP hS d_Rd_addWord_32
set_option maxHeartbeats 4000000 in
set_option maxRecDepth 100000 in
theorem c_Rd_octets {E : (Nat → Prop) → State → Heap → Prop} {D : va_G} {ad kd sd vd xd : Nat → Nat} {ca : Nat → ClassId} (hE : o_EK E kd sd vd xd) (l : Launch)  (Rd : SRd) (Sj : SSJ) (T0 : STx) (T1 : STx) (Pg : SPg) (Pt : SPt) (Mk : SMk) (Lk : SLk) (Ck : SCk) (Jd : SJd) (Ld : SLd) (Pr : SPr) (rt : Nat) {r : Int32} (h : m_Rd_octets Rd = some r) : o_Cn E l D o_cls (o_tys ca) y_Rd_octets cc_Rd_octets rm_Rd_octets [.ref (ad 23)] (o_cw ad ca rt Sj T0 T1 Rd Pg Pt Mk Lk Ck Jd Ld Pr) (o_cw ad ca rt Sj T0 T1 Rd Pg Pt Mk Lk Ck Jd Ld Pr) (some (.int r)) := by
  refine o_Cn_of (by decide) (Nat.le_of_ble_eq_true rfl) ?_
  intro p e s m below meth c A ls C hD hP hS hl
  have hDD : ∀ (rt : Nat) (Sj : SSJ) (T0 : STx) (T1 : STx) (Rd : SRd) (Pg : SPg) (Pt : SPt) (Mk : SMk) (Lk : SLk) (Ck : SCk) (Jd : SJd) (Ld : SLd) (Pr : SPr), va_D A (o_cw ad ca rt Sj T0 T1 Rd Pg Pt Mk Lk Ck Jd Ld Pr) := fun _ _ _ _ _ _ _ _ _ _ _ _ _ => o_D_map hD rfl
  have hl : lv_has ls 1 [(0, .ref (ad 23))] := hl
  unfold m_Rd_octets at h
  have C0 := C
  obtain ⟨hx, hb, -, -, -, hown, hts, hK, -, -⟩ := C0
  refine lv_aload_n hx hb d_Rd_octets_0 rfl (lv_at hl 0 rfl) ?_
  refine o_get (v := .int (Rd_wordCount Rd)) C in_Rd hP 23 cw_23 rfl 1 (by decide) k_1_95 rfl rfl d_Rd_octets_1 ?_
  refine lv_iconst (v := (4:Int32)) hx hb d_Rd_octets_4 (by decide) ?_
  refine lv_imul hx hb d_Rd_octets_5 ?_
  cases h
  exact o_ri (v := ((Rd_wordCount Rd) * (4:Int32))) C hP hS d_Rd_octets_6
set_option maxHeartbeats 4000000 in
set_option maxRecDepth 100000 in
theorem c_Ck_forget {E : (Nat → Prop) → State → Heap → Prop} {D : va_G} {ad kd sd vd xd : Nat → Nat} {ca : Nat → ClassId} (hE : o_EK E kd sd vd xd) (l : Launch)  (Ck : SCk) (Sj : SSJ) (T0 : STx) (T1 : STx) (Rd : SRd) (Pg : SPg) (Pt : SPt) (Mk : SMk) (Lk : SLk) (Jd : SJd) (Ld : SLd) (Pr : SPr) (rt : Nat) {r : SCk} (h : m_Ck_forget Ck = some r) : o_Cn E l D o_cls (o_tys ca) y_Ck_forget cc_Ck_forget rm_Ck_forget [.ref (ad 45)] (o_cw ad ca rt Sj T0 T1 Rd Pg Pt Mk Lk Ck Jd Ld Pr) (o_cw ad ca rt Sj T0 T1 Rd Pg Pt Mk Lk r Jd Ld Pr) none := by
  refine o_Cn_of (by decide) (Nat.le_of_ble_eq_true rfl) ?_
  intro p e s m below meth c A ls C hD hP hS hl
  have hDD : ∀ (rt : Nat) (Sj : SSJ) (T0 : STx) (T1 : STx) (Rd : SRd) (Pg : SPg) (Pt : SPt) (Mk : SMk) (Lk : SLk) (Ck : SCk) (Jd : SJd) (Ld : SLd) (Pr : SPr), va_D A (o_cw ad ca rt Sj T0 T1 Rd Pg Pt Mk Lk Ck Jd Ld Pr) := fun _ _ _ _ _ _ _ _ _ _ _ _ _ => o_D_map hD rfl
  have hl : lv_has ls 1 [(0, .ref (ad 45))] := hl
  unfold m_Ck_forget at h
  have C0 := C
  obtain ⟨hx, hb, -, -, -, hown, hts, hK, -, -⟩ := C0
  refine lv_aload_n hx hb d_Ck_forget_0 rfl (lv_at hl 0 rfl) ?_
  refine lv_iconst (v := (-1:Int32)) hx hb d_Ck_forget_1 (by decide) ?_
  refine o_put (v := .int (-1:Int32)) (ty := .int) (w1 := (o_cw ad ca rt Sj T0 T1 Rd Pg Pt Mk Lk (Ck_mk (Ck_aimedAt Ck) (Ck_reached Ck) (Ck_reachedFrom Ck) (Ck_reachedCount Ck) (-1:Int32) (Ck_foundAt Ck)) Jd Ld Pr)) C in_Ck t_Ck t_Ck_ok n_Ck hP (hDD _ _ _ _ _ _ _ _ _ _ _ _ _) hS 45 cw_45 rfl 8 (by decide) k_2_15 rfl rfl (by decide +kernel) rfl rfl (Nat.le_of_ble_eq_true rfl) rfl d_Ck_forget_2 (fun H locs hP hS => ?_)
  refine lv_aload_n hx hb d_Ck_forget_5 rfl (lv_at hl 0 rfl) ?_
  refine lv_iconst (v := (-1:Int32)) hx hb d_Ck_forget_6 (by decide) ?_
  refine o_put (v := .int (-1:Int32)) (ty := .int) (w1 := (o_cw ad ca rt Sj T0 T1 Rd Pg Pt Mk Lk (Ck_mk (Ck_aimedAt Ck) (Ck_reached Ck) (Ck_reachedFrom Ck) (Ck_reachedCount Ck) (-1:Int32) (-1:Int32)) Jd Ld Pr)) C in_Ck t_Ck t_Ck_ok n_Ck hP (hDD _ _ _ _ _ _ _ _ _ _ _ _ _) hS 45 cw_45 rfl 9 (by decide) k_2_16 rfl rfl (by decide +kernel) rfl rfl (Nat.le_of_ble_eq_true rfl) rfl d_Ck_forget_7 (fun H locs hP hS => ?_)
  cases h
  exact o_rv C hP hS d_Ck_forget_10
set_option maxHeartbeats 4000000 in
set_option maxRecDepth 100000 in
theorem c_Rd_peek {E : (Nat → Prop) → State → Heap → Prop} {D : va_G} {ad kd sd vd xd : Nat → Nat} {ca : Nat → ClassId} (hE : o_EK E kd sd vd xd) (l : Launch)  (Rd : SRd) (Sj : SSJ) (T0 : STx) (T1 : STx) (Pg : SPg) (Pt : SPt) (Mk : SMk) (Lk : SLk) (Ck : SCk) (Jd : SJd) (Ld : SLd) (Pr : SPr) (rt : Nat) {r : Int32} (h : m_Rd_peek Rd = some r) : o_Cn E l D o_cls (o_tys ca) y_Rd_peek cc_Rd_peek rm_Rd_peek [.ref (ad 23)] (o_cw ad ca rt Sj T0 T1 Rd Pg Pt Mk Lk Ck Jd Ld Pr) (o_cw ad ca rt Sj T0 T1 Rd Pg Pt Mk Lk Ck Jd Ld Pr) (some (.int r)) := by
  refine o_Cn_of (by decide) (Nat.le_of_ble_eq_true rfl) ?_
  intro p e s m below meth c A ls C hD hP hS hl
  have hDD : ∀ (rt : Nat) (Sj : SSJ) (T0 : STx) (T1 : STx) (Rd : SRd) (Pg : SPg) (Pt : SPt) (Mk : SMk) (Lk : SLk) (Ck : SCk) (Jd : SJd) (Ld : SLd) (Pr : SPr), va_D A (o_cw ad ca rt Sj T0 T1 Rd Pg Pt Mk Lk Ck Jd Ld Pr) := fun _ _ _ _ _ _ _ _ _ _ _ _ _ => o_D_map hD rfl
  have hl : lv_has ls 2 [(0, .ref (ad 23))] := hl
  unfold m_Rd_peek at h
  have C0 := C
  obtain ⟨hx, hb, -, -, -, hown, hts, hK, -, -⟩ := C0
  refine lv_aload_n hx hb d_Rd_peek_0 rfl (lv_at hl 0 rfl) ?_
  refine o_get (v := .int (Rd_position Rd)) C in_Rd hP 23 cw_23 rfl 3 (by decide) k_1_97 rfl rfl d_Rd_peek_1 ?_
  refine lv_iconst (v := (2:Int32)) hx hb d_Rd_peek_4 (by decide) ?_
  refine lv_ishr hx hb d_Rd_peek_5 ?_
  refine lv_topi (fun x1_6 ex1_6 => ?_)
  replace h := o_nm_at ex1_6 h
  refine lv_istore_n (lv' := [(1, .int x1_6), (0, .ref (ad 23))]) hx hb d_Rd_peek_6 rfl hl (by decide) rfl (fun ls hl => ?_)
  refine lv_aload_n hx hb d_Rd_peek_7 rfl (lv_at hl 1 rfl) ?_
  refine o_get (v := .int (Rd_position Rd)) C in_Rd hP 23 cw_23 rfl 3 (by decide) k_1_97 rfl rfl d_Rd_peek_8 ?_
  refine lv_if_lt (tgt := 34) hx hb d_Rd_peek_11 (by decide) (fun c1 => ?_) (fun c1 => ?_)
  · replace h := o_tt c1 h
    refine lv_iconst (v := (-1:Int32)) hx hb d_Rd_peek_34 (by decide) ?_
    cases h
    exact o_ri (v := (-1:Int32)) C hP hS d_Rd_peek_35
  · replace h := o_ff c1 h
    refine lv_aload_n hx hb d_Rd_peek_14 rfl (lv_at hl 1 rfl) ?_
    refine o_get (v := .int (Rd_position Rd)) C in_Rd hP 23 cw_23 rfl 3 (by decide) k_1_97 rfl rfl d_Rd_peek_15 ?_
    refine lv_aload_n hx hb d_Rd_peek_18 rfl (lv_at hl 1 rfl) ?_
    refine o_get (v := .int (Rd_limit Rd)) C in_Rd hP 23 cw_23 rfl 4 (by decide) k_1_98 rfl rfl d_Rd_peek_19 ?_
    refine lv_icmp_ge (tgt := 34) hx hb d_Rd_peek_22 (by decide) (fun c2 => ?_) (fun c2 => ?_)
    · replace h := o_tt c2 h
      refine lv_iconst (v := (-1:Int32)) hx hb d_Rd_peek_34 (by decide) ?_
      cases h
      exact o_ri (v := (-1:Int32)) C hP hS d_Rd_peek_35
    · replace h := o_ff c2 h
      refine lv_iload_n hx hb d_Rd_peek_25 rfl (lv_at hl 0 rfl) ?_
      refine lv_aload_n hx hb d_Rd_peek_26 rfl (lv_at hl 1 rfl) ?_
      refine o_get (v := .ref (ad 24)) C in_Rd hP 23 cw_23 rfl 0 (by decide) k_1_94 rfl rfl d_Rd_peek_27 ?_
      refine va_alen (v := (2050:Int32)) hx hb hK hP 24 20 cw_24 rfl rfl d_Rd_peek_30 ?_
      refine lv_icmp_lt (tgt := 36) hx hb d_Rd_peek_31 (by decide) (fun c3 => ?_) (fun c3 => ?_)
      · replace h := o_tt c3 h
        refine lv_aload_n hx hb d_Rd_peek_36 rfl (lv_at hl 1 rfl) ?_
        refine o_get (v := .ref (ad 24)) C in_Rd hP 23 cw_23 rfl 0 (by decide) k_1_94 rfl rfl d_Rd_peek_37 ?_
        refine lv_iload_n hx hb d_Rd_peek_40 rfl (lv_at hl 0 rfl) ?_
        obtain ⟨g4, h⟩ := o_gd_some h
        refine o_iald (f := (Rd_words Rd)) C hP 24 20 cw_24 rfl g4 d_Rd_peek_41 ?_
        refine lv_bipush (v := (24:Int32)) hx hb d_Rd_peek_42 (by decide) ?_
        refine lv_bipush (v := (8:Int32)) hx hb d_Rd_peek_44 (by decide) ?_
        refine lv_aload_n hx hb d_Rd_peek_46 rfl (lv_at hl 1 rfl) ?_
        refine o_get (v := .int (Rd_position Rd)) C in_Rd hP 23 cw_23 rfl 3 (by decide) k_1_97 rfl rfl d_Rd_peek_47 ?_
        refine lv_iconst (v := (3:Int32)) hx hb d_Rd_peek_50 (by decide) ?_
        refine lv_iand hx hb d_Rd_peek_51 ?_
        refine lv_imul hx hb d_Rd_peek_52 ?_
        refine lv_isub hx hb d_Rd_peek_53 ?_
        refine lv_iushr hx hb d_Rd_peek_54 rfl ?_
        refine lv_sipush (v := (255:Int32)) hx hb d_Rd_peek_55 (by decide) ?_
        refine lv_iand hx hb d_Rd_peek_58 ?_
        cases h
        exact o_ri (v := ((((Rd_words Rd) x1_6.toNatClampNeg).toUInt32 >>> (((24:Int32) - ((8:Int32) * ((Rd_position Rd) &&& (3:Int32)))).toUInt32 &&& Int32.toUInt32 31)).toInt32 &&& (255:Int32))) C hP hS d_Rd_peek_59
      · replace h := o_ff c3 h
        refine lv_iconst (v := (-1:Int32)) hx hb d_Rd_peek_34 (by decide) ?_
        cases h
        exact o_ri (v := (-1:Int32)) C hP hS d_Rd_peek_35
set_option maxHeartbeats 4000000 in
set_option maxRecDepth 100000 in
theorem w_Rd_skipBlanks_j39 {E : (Nat → Prop) → State → Heap → Prop} {p : Program} {l : Launch} {e : Env} {s : State} {m : MethodId} {args : Array Value} {below : List Frame} {meth : Method} {c : Code} {D : va_G} {ad kd sd vd xd : Nat → Nat} {ca : Nat → ClassId} {A : Nat → Prop} {Q : State → Prop} (hE : o_EK E kd sd vd xd) (C : o_Cx E p s m args meth c D o_cls (o_tys ca) "SchemaJudge$Reader" b_Rd_skipBlanks none 3 cc_Rd_skipBlanks A) (hDD : ∀ (rt : Nat) (Sj : SSJ) (T0 : STx) (T1 : STx) (Rd : SRd) (Pg : SPg) (Pt : SPt) (Mk : SMk) (Lk : SLk) (Ck : SCk) (Jd : SJd) (Ld : SLd) (Pr : SPr), va_D A (o_cw ad ca rt Sj T0 T1 Rd Pg Pt Mk Lk Ck Jd Ld Pr)) (n : Nat) (u2_Sj : SSJ) (u2_T0 : STx) (u2_T1 : STx) (u2_Pg : SPg) (u2_Pt : SPt) (u2_Mk : SMk) (u2_Lk : SLk) (u2_Ck : SCk) (u2_Jd : SJd) (u2_Ld : SLd) (u2_Pr : SPr) (u2_rt : Nat) (x1 : Int32) (Rd : SRd) {q : Nat × Int32 × SRd} (h : m_Rd_skipBlanks_j39 n x1 Rd = some q) (h0 : q.1 = 0 → o_At p l e rm_Rd_skipBlanks s m args below meth c Q o_cls D A 3 2 [] (o_cw ad ca u2_rt u2_Sj u2_T0 u2_T1 q.2.2 u2_Pg u2_Pt u2_Mk u2_Lk u2_Ck u2_Jd u2_Ld u2_Pr) [(0, .ref (ad 23)), (1, .int q.2.1)]) (h1 : q.1 ≠ 0 → (if q.1 = 1 then o_At p l e rm_Rd_skipBlanks s m args below meth c Q o_cls D A 3 38 [] (o_cw ad ca u2_rt u2_Sj u2_T0 u2_T1 q.2.2 u2_Pg u2_Pt u2_Mk u2_Lk u2_Ck u2_Jd u2_Ld u2_Pr) [] else o_At p l e rm_Rd_skipBlanks s m args below meth c Q o_cls D A 3 55 [] (o_cw ad ca u2_rt u2_Sj u2_T0 u2_T1 q.2.2 u2_Pg u2_Pt u2_Mk u2_Lk u2_Ck u2_Jd u2_Ld u2_Pr) [])) : o_At p l e rm_Rd_skipBlanks s m args below meth c Q o_cls D A 3 39 [] (o_cw ad ca u2_rt u2_Sj u2_T0 u2_T1 Rd u2_Pg u2_Pt u2_Mk u2_Lk u2_Ck u2_Jd u2_Ld u2_Pr) [(0, .ref (ad 23)), (1, .int x1)] := by
  unfold m_Rd_skipBlanks_j39 at h
  intro H locs ls hP hS hl
  have C0 := C
  obtain ⟨hx, hb, -, -, -, hown, hts, hK, -, -⟩ := C0
  refine lv_aload_n hx hb d_Rd_skipBlanks_39 rfl (lv_at hl 0 rfl) ?_
  refine lv_dup hx hb d_Rd_skipBlanks_40 rfl ?_
  refine o_get (v := .int (Rd_position Rd)) C in_Rd hP 23 cw_23 rfl 3 (by decide) k_1_97 rfl rfl d_Rd_skipBlanks_41 ?_
  refine lv_iconst (v := (1:Int32)) hx hb d_Rd_skipBlanks_44 (by decide) ?_
  refine lv_iadd hx hb d_Rd_skipBlanks_45 ?_
  refine o_put (v := .int ((Rd_position Rd) + (1:Int32))) (ty := .int) (w1 := (o_cw ad ca u2_rt u2_Sj u2_T0 u2_T1 (Rd_mk (Rd_words Rd) (Rd_wordCount Rd) ((Rd_position Rd) + (1:Int32)) (Rd_limit Rd) (Rd_wrongPlace Rd)) u2_Pg u2_Pt u2_Mk u2_Lk u2_Ck u2_Jd u2_Ld u2_Pr)) C in_Rd t_Rd t_Rd_ok n_Rd hP (hDD _ _ _ _ _ _ _ _ _ _ _ _ _) hS 23 cw_23 rfl 3 (by decide) k_1_97 rfl rfl (by decide +kernel) rfl rfl (Nat.le_of_ble_eq_true rfl) rfl d_Rd_skipBlanks_46 (fun H locs hP hS => ?_)
  obtain ⟨x1_49, ex1_49⟩ : ∃ y : Int32, y = x1 + (1:Int32) := ⟨_, rfl⟩
  replace h := o_nm_at ex1_49 h
  refine lv_iinc (v := x1_49) (lv' := [(1, .int x1_49), (0, .ref (ad 23))]) hx hb d_Rd_skipBlanks_49 hl (k := 1) rfl (by rw [ex1_49]; rfl) (by decide) rfl (fun ls hl => ?_)
  refine lv_goto (tgt := 2) hx hb d_Rd_skipBlanks_52 (by decide) ?_
  cases h
  exact h0 rfl _ _ _ hP hS (lv_sub hl [1, 0] rfl)
set_option maxHeartbeats 4000000 in
set_option maxRecDepth 100000 in
theorem w_Rd_skipBlanks_b2 {E : (Nat → Prop) → State → Heap → Prop} {p : Program} {l : Launch} {e : Env} {s : State} {m : MethodId} {args : Array Value} {below : List Frame} {meth : Method} {c : Code} {D : va_G} {ad kd sd vd xd : Nat → Nat} {ca : Nat → ClassId} {A : Nat → Prop} {Q : State → Prop} (hE : o_EK E kd sd vd xd) (C : o_Cx E p s m args meth c D o_cls (o_tys ca) "SchemaJudge$Reader" b_Rd_skipBlanks none 3 cc_Rd_skipBlanks A) (hDD : ∀ (rt : Nat) (Sj : SSJ) (T0 : STx) (T1 : STx) (Rd : SRd) (Pg : SPg) (Pt : SPt) (Mk : SMk) (Lk : SLk) (Ck : SCk) (Jd : SJd) (Ld : SLd) (Pr : SPr), va_D A (o_cw ad ca rt Sj T0 T1 Rd Pg Pt Mk Lk Ck Jd Ld Pr)) (n : Nat) (u2_Sj : SSJ) (u2_T0 : STx) (u2_T1 : STx) (u2_Pg : SPg) (u2_Pt : SPt) (u2_Mk : SMk) (u2_Lk : SLk) (u2_Ck : SCk) (u2_Jd : SJd) (u2_Ld : SLd) (u2_Pr : SPr) (u2_rt : Nat) (z : Int32 × SRd) (q : Nat × Int32 × SRd) (h : m_Rd_skipBlanks_b2 n z = some q) (h0 : q.1 = 0 → o_At p l e rm_Rd_skipBlanks s m args below meth c Q o_cls D A 3 2 [] (o_cw ad ca u2_rt u2_Sj u2_T0 u2_T1 q.2.2 u2_Pg u2_Pt u2_Mk u2_Lk u2_Ck u2_Jd u2_Ld u2_Pr) [(0, .ref (ad 23)), (1, .int q.2.1)]) (h1 : q.1 ≠ 0 → (if q.1 = 1 then o_At p l e rm_Rd_skipBlanks s m args below meth c Q o_cls D A 3 38 [] (o_cw ad ca u2_rt u2_Sj u2_T0 u2_T1 q.2.2 u2_Pg u2_Pt u2_Mk u2_Lk u2_Ck u2_Jd u2_Ld u2_Pr) [] else o_At p l e rm_Rd_skipBlanks s m args below meth c Q o_cls D A 3 55 [] (o_cw ad ca u2_rt u2_Sj u2_T0 u2_T1 q.2.2 u2_Pg u2_Pt u2_Mk u2_Lk u2_Ck u2_Jd u2_Ld u2_Pr) [])) : o_At p l e rm_Rd_skipBlanks s m args below meth c Q o_cls D A 3 2 [] (o_cw ad ca u2_rt u2_Sj u2_T0 u2_T1 z.2 u2_Pg u2_Pt u2_Mk u2_Lk u2_Ck u2_Jd u2_Ld u2_Pr) [(0, .ref (ad 23)), (1, .int z.1)] := by
  unfold m_Rd_skipBlanks_b2 at h
  intro H locs ls hP hS hl
  have C0 := C
  obtain ⟨hx, hb, -, -, -, hown, hts, hK, -, -⟩ := C0
  refine lv_iload_n hx hb d_Rd_skipBlanks_2 rfl (lv_at hl 1 rfl) ?_
  refine lv_sipush (v := (8192:Int32)) hx hb d_Rd_skipBlanks_3 (by decide) ?_
  refine lv_icmp_ge (tgt := 55) hx hb d_Rd_skipBlanks_6 (by decide) (fun c1 => ?_) (fun c1 => ?_)
  · replace h := o_tt c1 h
    cases h
    exact h1 (Nat.succ_ne_zero 1) _ _ _ hP hS (lv_sub hl [] rfl)
  · replace h := o_ff c1 h
    refine lv_aload_n hx hb d_Rd_skipBlanks_9 rfl (lv_at hl 0 rfl) ?_
    obtain ⟨q1, hq1, h⟩ := o_bd_some h
    refine o_V (st1 := [.int q1]) (w1 := (o_cw ad ca u2_rt u2_Sj u2_T0 u2_T1 z.2 u2_Pg u2_Pt u2_Mk u2_Lk u2_Ck u2_Jd u2_Ld u2_Pr)) hE.1 C (c_Rd_peek hE l z.2 u2_Sj u2_T0 u2_T1 u2_Pg u2_Pt u2_Mk u2_Lk u2_Ck u2_Jd u2_Ld u2_Pr u2_rt hq1) hP (hDD _ _ _ _ _ _ _ _ _ _ _ _ _) hS hl.1 rfl cw_23 k_3_38 k_3_40 k_s_3 k_1_3 k_3_41 hv_Rd_peek rfl rfl ⟨(Nat.le_of_ble_eq_true rfl), (Nat.le_of_ble_eq_true rfl)⟩ rfl (Nat.le_of_ble_eq_true rfl) ⟨Nat.zero_le _, Nat.zero_le _⟩ rfl d_Rd_skipBlanks_10 (fun H locs hP hS => ?_)
    refine lv_istore_n (lv' := [(2, .int q1), (0, .ref (ad 23)), (1, .int z.1)]) hx hb d_Rd_skipBlanks_13 rfl hl (by decide) rfl (fun ls hl => ?_)
    refine lv_iload_n hx hb d_Rd_skipBlanks_14 rfl (lv_at hl 0 rfl) ?_
    refine lv_bipush (v := (9:Int32)) hx hb d_Rd_skipBlanks_15 (by decide) ?_
    refine lv_icmp_eq (tgt := 39) hx hb d_Rd_skipBlanks_17 (by decide) (fun c2 => ?_) (fun c2 => ?_)
    · replace h := o_tt c2 h
      exact w_Rd_skipBlanks_j39 hE C hDD n u2_Sj u2_T0 u2_T1 u2_Pg u2_Pt u2_Mk u2_Lk u2_Ck u2_Jd u2_Ld u2_Pr u2_rt z.1 z.2 h h0 h1 _ _ _ hP hS (lv_sub hl [1, 2] rfl)
    · replace h := o_ff c2 h
      refine lv_iload_n hx hb d_Rd_skipBlanks_20 rfl (lv_at hl 0 rfl) ?_
      refine lv_bipush (v := (10:Int32)) hx hb d_Rd_skipBlanks_21 (by decide) ?_
      refine lv_icmp_eq (tgt := 39) hx hb d_Rd_skipBlanks_23 (by decide) (fun c3 => ?_) (fun c3 => ?_)
      · replace h := o_tt c3 h
        exact w_Rd_skipBlanks_j39 hE C hDD n u2_Sj u2_T0 u2_T1 u2_Pg u2_Pt u2_Mk u2_Lk u2_Ck u2_Jd u2_Ld u2_Pr u2_rt z.1 z.2 h h0 h1 _ _ _ hP hS (lv_sub hl [1, 2] rfl)
      · replace h := o_ff c3 h
        refine lv_iload_n hx hb d_Rd_skipBlanks_26 rfl (lv_at hl 0 rfl) ?_
        refine lv_bipush (v := (13:Int32)) hx hb d_Rd_skipBlanks_27 (by decide) ?_
        refine lv_icmp_eq (tgt := 39) hx hb d_Rd_skipBlanks_29 (by decide) (fun c4 => ?_) (fun c4 => ?_)
        · replace h := o_tt c4 h
          exact w_Rd_skipBlanks_j39 hE C hDD n u2_Sj u2_T0 u2_T1 u2_Pg u2_Pt u2_Mk u2_Lk u2_Ck u2_Jd u2_Ld u2_Pr u2_rt z.1 z.2 h h0 h1 _ _ _ hP hS (lv_sub hl [1, 2] rfl)
        · replace h := o_ff c4 h
          refine lv_iload_n hx hb d_Rd_skipBlanks_32 rfl (lv_at hl 0 rfl) ?_
          refine lv_bipush (v := (32:Int32)) hx hb d_Rd_skipBlanks_33 (by decide) ?_
          refine lv_icmp_eq (tgt := 39) hx hb d_Rd_skipBlanks_35 (by decide) (fun c5 => ?_) (fun c5 => ?_)
          · replace h := o_tt c5 h
            exact w_Rd_skipBlanks_j39 hE C hDD n u2_Sj u2_T0 u2_T1 u2_Pg u2_Pt u2_Mk u2_Lk u2_Ck u2_Jd u2_Ld u2_Pr u2_rt z.1 z.2 h h0 h1 _ _ _ hP hS (lv_sub hl [1, 2] rfl)
          · replace h := o_ff c5 h
            cases h
            exact h1 (Nat.succ_ne_zero 0) _ _ _ hP hS (lv_sub hl [] rfl)
set_option maxHeartbeats 4000000 in
set_option maxRecDepth 100000 in
theorem c_Rd_skipBlanks {E : (Nat → Prop) → State → Heap → Prop} {D : va_G} {ad kd sd vd xd : Nat → Nat} {ca : Nat → ClassId} (hE : o_EK E kd sd vd xd) (l : Launch) (n : Nat)  (Rd : SRd) (Sj : SSJ) (T0 : STx) (T1 : STx) (Pg : SPg) (Pt : SPt) (Mk : SMk) (Lk : SLk) (Ck : SCk) (Jd : SJd) (Ld : SLd) (Pr : SPr) (rt : Nat) {r : SRd} (h : m_Rd_skipBlanks n Rd = some r) : o_Cn E l D o_cls (o_tys ca) y_Rd_skipBlanks cc_Rd_skipBlanks rm_Rd_skipBlanks [.ref (ad 23)] (o_cw ad ca rt Sj T0 T1 Rd Pg Pt Mk Lk Ck Jd Ld Pr) (o_cw ad ca rt Sj T0 T1 r Pg Pt Mk Lk Ck Jd Ld Pr) none := by
  refine o_Cn_of (by decide) (Nat.le_of_ble_eq_true rfl) ?_
  intro p e s m below meth c A ls C hD hP hS hl
  have hDD : ∀ (rt : Nat) (Sj : SSJ) (T0 : STx) (T1 : STx) (Rd : SRd) (Pg : SPg) (Pt : SPt) (Mk : SMk) (Lk : SLk) (Ck : SCk) (Jd : SJd) (Ld : SLd) (Pr : SPr), va_D A (o_cw ad ca rt Sj T0 T1 Rd Pg Pt Mk Lk Ck Jd Ld Pr) := fun _ _ _ _ _ _ _ _ _ _ _ _ _ => o_D_map hD rfl
  have hl : lv_has ls 3 [(0, .ref (ad 23))] := hl
  unfold m_Rd_skipBlanks at h
  have C0 := C
  obtain ⟨hx, hb, -, -, -, hown, hts, hK, -, -⟩ := C0
  refine lv_iconst (v := (0:Int32)) hx hb d_Rd_skipBlanks_0 (by decide) ?_
  refine lv_istore_n (lv' := [(1, .int (0:Int32)), (0, .ref (ad 23))]) hx hb d_Rd_skipBlanks_1 rfl hl (by decide) rfl (fun ls hl => ?_)
  obtain ⟨q2, hq2, h⟩ := o_bd_some h
  refine o_sim2 (AH := fun zz => o_At p l e rm_Rd_skipBlanks s m _ below meth c _ o_cls D A 3 2 [] (o_cw ad ca rt Sj T0 T1 zz.2 Pg Pt Mk Lk Ck Jd Ld Pr) [(0, .ref (ad 23)), (1, .int zz.1)]) (AX := fun qq => if qq.1 = 1 then o_At p l e rm_Rd_skipBlanks s m _ below meth c _ o_cls D A 3 38 [] (o_cw ad ca rt Sj T0 T1 qq.2.2 Pg Pt Mk Lk Ck Jd Ld Pr) [] else o_At p l e rm_Rd_skipBlanks s m _ below meth c _ o_cls D A 3 55 [] (o_cw ad ca rt Sj T0 T1 qq.2.2 Pg Pt Mk Lk Ck Jd Ld Pr) []) (fun zz qq h h0 h1 => w_Rd_skipBlanks_b2 hE C hDD n Sj T0 T1 Pg Pt Mk Lk Ck Jd Ld Pr rt zz qq h h0 h1) n _ q2 hq2 ?_ _ _ _ hP hS (lv_sub hl [1, 0] rfl)
  by_cases c6 : q2.1 = 1
  · replace h := o_tt c6 h
    refine o_ip c6 ?_
    intro H locs ls hP hS hl
    cases h
    exact o_rv C hP hS d_Rd_skipBlanks_38
  replace h := o_ff c6 h
  refine o_in_ c6 ?_
  intro H locs ls hP hS hl
  cases h
  exact o_rv C hP hS d_Rd_skipBlanks_55
set_option maxHeartbeats 4000000 in
set_option maxRecDepth 100000 in
theorem c_SJ_isDigit {E : (Nat → Prop) → State → Heap → Prop} {D : va_G} {ad kd sd vd xd : Nat → Nat} {ca : Nat → ClassId} (hE : o_EK E kd sd vd xd) (l : Launch) (x0 : Int32) (Sj : SSJ) (T0 : STx) (T1 : STx) (Rd : SRd) (Pg : SPg) (Pt : SPt) (Mk : SMk) (Lk : SLk) (Ck : SCk) (Jd : SJd) (Ld : SLd) (Pr : SPr) (rt : Nat) {r : Int32} (h : m_SJ_isDigit x0 = some r) : o_Cn E l D o_cls (o_tys ca) y_SJ_isDigit cc_SJ_isDigit rm_SJ_isDigit [.int x0] (o_cw ad ca rt Sj T0 T1 Rd Pg Pt Mk Lk Ck Jd Ld Pr) (o_cw ad ca rt Sj T0 T1 Rd Pg Pt Mk Lk Ck Jd Ld Pr) (some (.int r)) := by
  refine o_Cn_of (by decide) (Nat.le_of_ble_eq_true rfl) ?_
  intro p e s m below meth c A ls C hD hP hS hl
  have hDD : ∀ (rt : Nat) (Sj : SSJ) (T0 : STx) (T1 : STx) (Rd : SRd) (Pg : SPg) (Pt : SPt) (Mk : SMk) (Lk : SLk) (Ck : SCk) (Jd : SJd) (Ld : SLd) (Pr : SPr), va_D A (o_cw ad ca rt Sj T0 T1 Rd Pg Pt Mk Lk Ck Jd Ld Pr) := fun _ _ _ _ _ _ _ _ _ _ _ _ _ => o_D_map hD rfl
  have hl : lv_has ls 1 [(0, .int x0)] := hl
  unfold m_SJ_isDigit at h
  have C0 := C
  obtain ⟨hx, hb, -, -, -, hown, hts, hK, -, -⟩ := C0
  refine lv_iload_n hx hb d_SJ_isDigit_0 rfl (lv_at hl 0 rfl) ?_
  refine lv_bipush (v := (48:Int32)) hx hb d_SJ_isDigit_1 (by decide) ?_
  refine lv_icmp_lt (tgt := 16) hx hb d_SJ_isDigit_3 (by decide) (fun c1 => ?_) (fun c1 => ?_)
  · replace h := o_tt c1 h
    refine lv_iconst (v := (0:Int32)) hx hb d_SJ_isDigit_16 (by decide) ?_
    cases h
    exact o_rz (v := (0:Int32)) C o_nar0 hP hS d_SJ_isDigit_17
  · replace h := o_ff c1 h
    refine lv_iload_n hx hb d_SJ_isDigit_6 rfl (lv_at hl 0 rfl) ?_
    refine lv_bipush (v := (57:Int32)) hx hb d_SJ_isDigit_7 (by decide) ?_
    refine lv_icmp_gt (tgt := 16) hx hb d_SJ_isDigit_9 (by decide) (fun c2 => ?_) (fun c2 => ?_)
    · replace h := o_tt c2 h
      refine lv_iconst (v := (0:Int32)) hx hb d_SJ_isDigit_16 (by decide) ?_
      cases h
      exact o_rz (v := (0:Int32)) C o_nar0 hP hS d_SJ_isDigit_17
    · replace h := o_ff c2 h
      refine lv_iconst (v := (1:Int32)) hx hb d_SJ_isDigit_12 (by decide) ?_
      refine lv_goto (tgt := 17) hx hb d_SJ_isDigit_13 (by decide) ?_
      cases h
      exact o_rz (v := (1:Int32)) C o_nar1 hP hS d_SJ_isDigit_17
set_option maxHeartbeats 4000000 in
set_option maxRecDepth 100000 in
theorem c_Rd_kindThatBegins {E : (Nat → Prop) → State → Heap → Prop} {D : va_G} {ad kd sd vd xd : Nat → Nat} {ca : Nat → ClassId} (hE : o_EK E kd sd vd xd) (l : Launch) (x0 : Int32) (Sj : SSJ) (T0 : STx) (T1 : STx) (Rd : SRd) (Pg : SPg) (Pt : SPt) (Mk : SMk) (Lk : SLk) (Ck : SCk) (Jd : SJd) (Ld : SLd) (Pr : SPr) (rt : Nat) {r : Int32} (h : m_Rd_kindThatBegins x0 = some r) : o_Cn E l D o_cls (o_tys ca) y_Rd_kindThatBegins cc_Rd_kindThatBegins rm_Rd_kindThatBegins [.int x0] (o_cw ad ca rt Sj T0 T1 Rd Pg Pt Mk Lk Ck Jd Ld Pr) (o_cw ad ca rt Sj T0 T1 Rd Pg Pt Mk Lk Ck Jd Ld Pr) (some (.int r)) := by
  refine o_Cn_of (by decide) (Nat.le_of_ble_eq_true rfl) ?_
  intro p e s m below meth c A ls C hD hP hS hl
  have hDD : ∀ (rt : Nat) (Sj : SSJ) (T0 : STx) (T1 : STx) (Rd : SRd) (Pg : SPg) (Pt : SPt) (Mk : SMk) (Lk : SLk) (Ck : SCk) (Jd : SJd) (Ld : SLd) (Pr : SPr), va_D A (o_cw ad ca rt Sj T0 T1 Rd Pg Pt Mk Lk Ck Jd Ld Pr) := fun _ _ _ _ _ _ _ _ _ _ _ _ _ => o_D_map hD rfl
  have hl : lv_has ls 1 [(0, .int x0)] := hl
  unfold m_Rd_kindThatBegins at h
  have C0 := C
  obtain ⟨hx, hb, -, -, -, hown, hts, hK, -, -⟩ := C0
  refine lv_iload_n hx hb d_Rd_kindThatBegins_0 rfl (lv_at hl 0 rfl) ?_
  by_cases c1 : x0 = (34:Int32)
  · replace h := o_tt c1 h
    refine lv_lookup (off := 65) (tgt := 66) hx hb d_Rd_kindThatBegins_1 (by decide) (by rw [c1]; rfl) (by decide) ?_
    refine lv_iconst (v := (4:Int32)) hx hb d_Rd_kindThatBegins_66 (by decide) ?_
    cases h
    exact o_ri (v := (4:Int32)) C hP hS d_Rd_kindThatBegins_67
  replace h := o_ff c1 h
  by_cases c2 : x0 = (91:Int32)
  · replace h := o_tt c2 h
    refine lv_lookup (off := 67) (tgt := 68) hx hb d_Rd_kindThatBegins_1 (by decide) (by rw [c2]; rfl) (by decide) ?_
    refine lv_iconst (v := (5:Int32)) hx hb d_Rd_kindThatBegins_68 (by decide) ?_
    cases h
    exact o_ri (v := (5:Int32)) C hP hS d_Rd_kindThatBegins_69
  replace h := o_ff c2 h
  by_cases c3 : x0 = (102:Int32)
  · replace h := o_tt c3 h
    refine lv_lookup (off := 61) (tgt := 62) hx hb d_Rd_kindThatBegins_1 (by decide) (by rw [c3]; rfl) (by decide) ?_
    refine lv_iconst (v := (1:Int32)) hx hb d_Rd_kindThatBegins_62 (by decide) ?_
    cases h
    exact o_ri (v := (1:Int32)) C hP hS d_Rd_kindThatBegins_63
  replace h := o_ff c3 h
  by_cases c4 : x0 = (110:Int32)
  · replace h := o_tt c4 h
    refine lv_lookup (off := 59) (tgt := 60) hx hb d_Rd_kindThatBegins_1 (by decide) (by rw [c4]; rfl) (by decide) ?_
    refine lv_iconst (v := (0:Int32)) hx hb d_Rd_kindThatBegins_60 (by decide) ?_
    cases h
    exact o_ri (v := (0:Int32)) C hP hS d_Rd_kindThatBegins_61
  replace h := o_ff c4 h
  by_cases c5 : x0 = (116:Int32)
  · replace h := o_tt c5 h
    refine lv_lookup (off := 63) (tgt := 64) hx hb d_Rd_kindThatBegins_1 (by decide) (by rw [c5]; rfl) (by decide) ?_
    refine lv_iconst (v := (2:Int32)) hx hb d_Rd_kindThatBegins_64 (by decide) ?_
    cases h
    exact o_ri (v := (2:Int32)) C hP hS d_Rd_kindThatBegins_65
  replace h := o_ff c5 h
  by_cases c6 : x0 = (123:Int32)
  · replace h := o_tt c6 h
    refine lv_lookup (off := 69) (tgt := 70) hx hb d_Rd_kindThatBegins_1 (by decide) (by rw [c6]; rfl) (by decide) ?_
    refine lv_bipush (v := (6:Int32)) hx hb d_Rd_kindThatBegins_70 (by decide) ?_
    cases h
    exact o_ri (v := (6:Int32)) C hP hS d_Rd_kindThatBegins_72
  replace h := o_ff c6 h
  refine lv_lookup (off := 72) (tgt := 73) hx hb d_Rd_kindThatBegins_1 (by decide) ((lv_osw c1 (by decide)).trans ((lv_osw c2 (by decide)).trans ((lv_osw c3 (by decide)).trans ((lv_osw c4 (by decide)).trans ((lv_osw c5 (by decide)).trans ((lv_osw c6 (by decide)).trans rfl)))))) (by decide) ?_
  refine lv_iload_n hx hb d_Rd_kindThatBegins_73 rfl (lv_at hl 0 rfl) ?_
  refine lv_bipush (v := (45:Int32)) hx hb d_Rd_kindThatBegins_74 (by decide) ?_
  refine lv_icmp_eq (tgt := 86) hx hb d_Rd_kindThatBegins_76 (by decide) (fun c7 => ?_) (fun c7 => ?_)
  · replace h := o_tt c7 h
    refine lv_iconst (v := (3:Int32)) hx hb d_Rd_kindThatBegins_86 (by decide) ?_
    refine lv_goto (tgt := 91) hx hb d_Rd_kindThatBegins_87 (by decide) ?_
    cases h
    exact o_ri (v := (3:Int32)) C hP hS d_Rd_kindThatBegins_91
  · replace h := o_ff c7 h
    refine lv_iload_n hx hb d_Rd_kindThatBegins_79 rfl (lv_at hl 0 rfl) ?_
    obtain ⟨q1, hq1, h⟩ := o_bd_some h
    refine o_SN (st1 := [.int q1]) (w1 := (o_cw ad ca rt Sj T0 T1 Rd Pg Pt Mk Lk Ck Jd Ld Pr)) hE.1 C (c_SJ_isDigit hE l x0 Sj T0 T1 Rd Pg Pt Mk Lk Ck Jd Ld Pr rt hq1) hP (hDD _ _ _ _ _ _ _ _ _ _ _ _ _) hS hl.1 (hE.2.1 _ _ _ C.2.2.2.2.2.2.2.2.2 _ nw_4) k_3_46 k_1_1 k_3_47 hs_SJ_isDigit rfl rfl ⟨(Nat.le_of_ble_eq_true rfl), (Nat.le_of_ble_eq_true rfl)⟩ rfl (Nat.le_of_ble_eq_true rfl) ⟨Nat.zero_le _, Nat.zero_le _⟩ rfl d_Rd_kindThatBegins_80 (fun H locs hP hS => ?_)
    refine lv_if_eq (tgt := 90) hx hb d_Rd_kindThatBegins_83 (by decide) (fun c8 => ?_) (fun c8 => ?_)
    · replace h := o_tt c8 h
      refine lv_iconst (v := (-1:Int32)) hx hb d_Rd_kindThatBegins_90 (by decide) ?_
      cases h
      exact o_ri (v := (-1:Int32)) C hP hS d_Rd_kindThatBegins_91
    · replace h := o_ff c8 h
      refine lv_iconst (v := (3:Int32)) hx hb d_Rd_kindThatBegins_86 (by decide) ?_
      refine lv_goto (tgt := 91) hx hb d_Rd_kindThatBegins_87 (by decide) ?_
      cases h
      exact o_ri (v := (3:Int32)) C hP hS d_Rd_kindThatBegins_91
set_option maxHeartbeats 4000000 in
set_option maxRecDepth 100000 in
theorem c_Rd_refuse {E : (Nat → Prop) → State → Heap → Prop} {D : va_G} {ad kd sd vd xd : Nat → Nat} {ca : Nat → ClassId} (hE : o_EK E kd sd vd xd) (l : Launch) (x1 : Int32) (Rd : SRd) (Sj : SSJ) (T0 : STx) (T1 : STx) (Pg : SPg) (Pt : SPt) (Mk : SMk) (Lk : SLk) (Ck : SCk) (Jd : SJd) (Ld : SLd) (Pr : SPr) (rt : Nat) {r : Int32 × SRd} (h : m_Rd_refuse x1 Rd = some r) : o_Cn E l D o_cls (o_tys ca) y_Rd_refuse cc_Rd_refuse rm_Rd_refuse [.ref (ad 23), .int x1] (o_cw ad ca rt Sj T0 T1 Rd Pg Pt Mk Lk Ck Jd Ld Pr) (o_cw ad ca rt Sj T0 T1 r.2 Pg Pt Mk Lk Ck Jd Ld Pr) (some (.int r.1)) := by
  refine o_Cn_of (by decide) (Nat.le_of_ble_eq_true rfl) ?_
  intro p e s m below meth c A ls C hD hP hS hl
  have hDD : ∀ (rt : Nat) (Sj : SSJ) (T0 : STx) (T1 : STx) (Rd : SRd) (Pg : SPg) (Pt : SPt) (Mk : SMk) (Lk : SLk) (Ck : SCk) (Jd : SJd) (Ld : SLd) (Pr : SPr), va_D A (o_cw ad ca rt Sj T0 T1 Rd Pg Pt Mk Lk Ck Jd Ld Pr) := fun _ _ _ _ _ _ _ _ _ _ _ _ _ => o_D_map hD rfl
  have hl : lv_has ls 2 [(0, .ref (ad 23)), (1, .int x1)] := hl
  unfold m_Rd_refuse at h
  have C0 := C
  obtain ⟨hx, hb, -, -, -, hown, hts, hK, -, -⟩ := C0
  refine lv_aload_n hx hb d_Rd_refuse_0 rfl (lv_at hl 0 rfl) ?_
  refine lv_iload_n hx hb d_Rd_refuse_1 rfl (lv_at hl 1 rfl) ?_
  refine o_put (v := .int x1) (ty := .int) (w1 := (o_cw ad ca rt Sj T0 T1 (Rd_mk (Rd_words Rd) (Rd_wordCount Rd) (Rd_position Rd) (Rd_limit Rd) x1) Pg Pt Mk Lk Ck Jd Ld Pr)) C in_Rd t_Rd t_Rd_ok n_Rd hP (hDD _ _ _ _ _ _ _ _ _ _ _ _ _) hS 23 cw_23 rfl 5 (by decide) k_1_99 rfl rfl (by decide +kernel) rfl rfl (Nat.le_of_ble_eq_true rfl) rfl d_Rd_refuse_2 (fun H locs hP hS => ?_)
  refine lv_iconst (v := (0:Int32)) hx hb d_Rd_refuse_5 (by decide) ?_
  cases h
  exact o_rz (v := (0:Int32)) C o_nar0 hP hS d_Rd_refuse_6
set_option maxHeartbeats 4000000 in
set_option maxRecDepth 100000 in
theorem c_JS_coder {E : (Nat → Prop) → State → Heap → Prop} {D : va_G} {ad kd sd vd xd : Nat → Nat} {ca : Nat → ClassId} (hE : o_EK E kd sd vd xd) (l : Launch) (x0 : Nat) (gx0 : o_sb x0 = true) (Sj : SSJ) (T0 : STx) (T1 : STx) (Rd : SRd) (Pg : SPg) (Pt : SPt) (Mk : SMk) (Lk : SLk) (Ck : SCk) (Jd : SJd) (Ld : SLd) (Pr : SPr) (rt : Nat) {r : Int32} (h : m_JS_coder x0 = some r) : o_Cn E l D o_cls (o_tys ca) y_JS_coder cc_JS_coder rm_JS_coder [.ref (sd x0)] (o_cw ad ca rt Sj T0 T1 Rd Pg Pt Mk Lk Ck Jd Ld Pr) (o_cw ad ca rt Sj T0 T1 Rd Pg Pt Mk Lk Ck Jd Ld Pr) (some (.int r)) := by
  refine o_Cn_of (by decide) (Nat.le_of_ble_eq_true rfl) ?_
  intro p e s m below meth c A ls C hD hP hS hl
  have hDD : ∀ (rt : Nat) (Sj : SSJ) (T0 : STx) (T1 : STx) (Rd : SRd) (Pg : SPg) (Pt : SPt) (Mk : SMk) (Lk : SLk) (Ck : SCk) (Jd : SJd) (Ld : SLd) (Pr : SPr), va_D A (o_cw ad ca rt Sj T0 T1 Rd Pg Pt Mk Lk Ck Jd Ld Pr) := fun _ _ _ _ _ _ _ _ _ _ _ _ _ => o_D_map hD rfl
  have hl : lv_has ls 1 [(0, .ref (sd x0))] := hl
  unfold m_JS_coder at h
  have C0 := C
  obtain ⟨hx, hb, -, -, -, hown, hts, hK, -, -⟩ := C0
  refine va_gets (v := .int (1:Int32)) hx hb (hE.2.2.2.2.2.2.2.2.1 _ _ _ C.2.2.2.2.2.2.2.2.2) hS hown (hts _ k_3_69) (fun _ h9 => h9) d_JS_coder_0 ?_
  refine lv_if_eq (tgt := 13) hx hb d_JS_coder_3 (by decide) (fun c1 => ?_) (fun c1 => ?_)
  · replace h := o_tt c1 h
    refine lv_iconst (v := (1:Int32)) hx hb d_JS_coder_13 (by decide) ?_
    obtain ⟨g2, h⟩ := o_gd_some h
    cases h
    exact o_rn (v := (1:Int32)) C (o_nr_narB g2) hP hS d_JS_coder_14
  · replace h := o_ff c1 h
    refine lv_aload_n hx hb d_JS_coder_6 rfl (lv_at hl 0 rfl) ?_
    refine vk_getf (v := .int (0:Int32)) hx hb (o_sc hE C gx0) hS hown (hts _ k_10_102) (fun _ h9 => h9) d_JS_coder_7 ?_
    refine lv_goto (tgt := 14) hx hb d_JS_coder_10 (by decide) ?_
    obtain ⟨g3, h⟩ := o_gd_some h
    cases h
    exact o_rn (v := (0:Int32)) C (o_nr_narB g3) hP hS d_JS_coder_14
set_option maxHeartbeats 4000000 in
set_option maxRecDepth 100000 in
theorem c_JS_length {E : (Nat → Prop) → State → Heap → Prop} {D : va_G} {ad kd sd vd xd : Nat → Nat} {ca : Nat → ClassId} (hE : o_EK E kd sd vd xd) (l : Launch) (x0 : Nat) (gx0 : o_sb x0 = true) (Sj : SSJ) (T0 : STx) (T1 : STx) (Rd : SRd) (Pg : SPg) (Pt : SPt) (Mk : SMk) (Lk : SLk) (Ck : SCk) (Jd : SJd) (Ld : SLd) (Pr : SPr) (rt : Nat) {r : Int32} (h : m_JS_length x0 = some r) : o_Cn E l D o_cls (o_tys ca) y_JS_length cc_JS_length rm_JS_length [.ref (sd x0)] (o_cw ad ca rt Sj T0 T1 Rd Pg Pt Mk Lk Ck Jd Ld Pr) (o_cw ad ca rt Sj T0 T1 Rd Pg Pt Mk Lk Ck Jd Ld Pr) (some (.int r)) := by
  refine o_Cn_of (by decide) (Nat.le_of_ble_eq_true rfl) ?_
  intro p e s m below meth c A ls C hD hP hS hl
  have hDD : ∀ (rt : Nat) (Sj : SSJ) (T0 : STx) (T1 : STx) (Rd : SRd) (Pg : SPg) (Pt : SPt) (Mk : SMk) (Lk : SLk) (Ck : SCk) (Jd : SJd) (Ld : SLd) (Pr : SPr), va_D A (o_cw ad ca rt Sj T0 T1 Rd Pg Pt Mk Lk Ck Jd Ld Pr) := fun _ _ _ _ _ _ _ _ _ _ _ _ _ => o_D_map hD rfl
  have hl : lv_has ls 1 [(0, .ref (sd x0))] := hl
  unfold m_JS_length at h
  have C0 := C
  obtain ⟨hx, hb, -, -, -, hown, hts, hK, -, -⟩ := C0
  refine lv_aload_n hx hb d_JS_length_0 rfl (lv_at hl 0 rfl) ?_
  refine vk_getf (v := .ref (vd x0)) hx hb (o_sv hE C gx0) hS hown (hts _ k_10_101) (fun _ h9 => h9) d_JS_length_1 ?_
  refine va_tlen (v := (o_sl x0)) hx hb (o_sT hE C gx0) hS rfl d_JS_length_4 ?_
  refine lv_aload_n hx hb d_JS_length_5 rfl (lv_at hl 0 rfl) ?_
  obtain ⟨q1, hq1, h⟩ := o_bd_some h
  refine o_VR (K := "java/lang/String") (st1 := [.int q1, .int (o_sl x0)]) (w1 := (o_cw ad ca rt Sj T0 T1 Rd Pg Pt Mk Lk Ck Jd Ld Pr)) hE.1 C (c_JS_coder hE l x0 gx0 Sj T0 T1 Rd Pg Pt Mk Lk Ck Jd Ld Pr rt hq1) hP (hDD _ _ _ _ _ _ _ _ _ _ _ _ _) hS hl.1 (o_rs hE C gx0 hS) k_3_65 k_3_66 k_3_67 k_1_18 k_3_68 hv_JS_coder rfl rfl ⟨(Nat.le_of_ble_eq_true rfl), (Nat.le_of_ble_eq_true rfl)⟩ rfl (Nat.le_of_ble_eq_true rfl) ⟨Nat.zero_le _, Nat.zero_le _⟩ rfl d_JS_length_6 (fun H locs hP hS => ?_)
  refine lv_ishr hx hb d_JS_length_9 ?_
  cases h
  exact o_ri (v := ((o_sl x0) >>> (q1 &&& 31))) C hP hS d_JS_length_10
set_option maxHeartbeats 4000000 in
set_option maxRecDepth 100000 in
theorem c_JS_isLatin1 {E : (Nat → Prop) → State → Heap → Prop} {D : va_G} {ad kd sd vd xd : Nat → Nat} {ca : Nat → ClassId} (hE : o_EK E kd sd vd xd) (l : Launch) (x0 : Nat) (gx0 : o_sb x0 = true) (Sj : SSJ) (T0 : STx) (T1 : STx) (Rd : SRd) (Pg : SPg) (Pt : SPt) (Mk : SMk) (Lk : SLk) (Ck : SCk) (Jd : SJd) (Ld : SLd) (Pr : SPr) (rt : Nat) {r : Int32} (h : m_JS_isLatin1 x0 = some r) : o_Cn E l D o_cls (o_tys ca) y_JS_isLatin1 cc_JS_isLatin1 rm_JS_isLatin1 [.ref (sd x0)] (o_cw ad ca rt Sj T0 T1 Rd Pg Pt Mk Lk Ck Jd Ld Pr) (o_cw ad ca rt Sj T0 T1 Rd Pg Pt Mk Lk Ck Jd Ld Pr) (some (.int r)) := by
  refine o_Cn_of (by decide) (Nat.le_of_ble_eq_true rfl) ?_
  intro p e s m below meth c A ls C hD hP hS hl
  have hDD : ∀ (rt : Nat) (Sj : SSJ) (T0 : STx) (T1 : STx) (Rd : SRd) (Pg : SPg) (Pt : SPt) (Mk : SMk) (Lk : SLk) (Ck : SCk) (Jd : SJd) (Ld : SLd) (Pr : SPr), va_D A (o_cw ad ca rt Sj T0 T1 Rd Pg Pt Mk Lk Ck Jd Ld Pr) := fun _ _ _ _ _ _ _ _ _ _ _ _ _ => o_D_map hD rfl
  have hl : lv_has ls 1 [(0, .ref (sd x0))] := hl
  unfold m_JS_isLatin1 at h
  have C0 := C
  obtain ⟨hx, hb, -, -, -, hown, hts, hK, -, -⟩ := C0
  refine va_gets (v := .int (1:Int32)) hx hb (hE.2.2.2.2.2.2.2.2.1 _ _ _ C.2.2.2.2.2.2.2.2.2) hS hown (hts _ k_3_69) (fun _ h9 => h9) d_JS_isLatin1_0 ?_
  refine lv_if_eq (tgt := 17) hx hb d_JS_isLatin1_3 (by decide) (fun c1 => ?_) (fun c1 => ?_)
  · replace h := o_tt c1 h
    refine lv_iconst (v := (0:Int32)) hx hb d_JS_isLatin1_17 (by decide) ?_
    cases h
    exact o_rz (v := (0:Int32)) C o_nar0 hP hS d_JS_isLatin1_18
  · replace h := o_ff c1 h
    refine lv_aload_n hx hb d_JS_isLatin1_6 rfl (lv_at hl 0 rfl) ?_
    refine vk_getf (v := .int (0:Int32)) hx hb (o_sc hE C gx0) hS hown (hts _ k_10_102) (fun _ h9 => h9) d_JS_isLatin1_7 ?_
    refine lv_if_ne (tgt := 17) hx hb d_JS_isLatin1_10 (by decide) (fun c2 => ?_) (fun c2 => ?_)
    · replace h := o_ff c2 h
      refine lv_iconst (v := (0:Int32)) hx hb d_JS_isLatin1_17 (by decide) ?_
      cases h
      exact o_rz (v := (0:Int32)) C o_nar0 hP hS d_JS_isLatin1_18
    · replace h := o_tt c2 h
      refine lv_iconst (v := (1:Int32)) hx hb d_JS_isLatin1_13 (by decide) ?_
      refine lv_goto (tgt := 18) hx hb d_JS_isLatin1_14 (by decide) ?_
      cases h
      exact o_rz (v := (1:Int32)) C o_nar1 hP hS d_JS_isLatin1_18
set_option maxHeartbeats 4000000 in
set_option maxRecDepth 100000 in
theorem c_JL_charAt {E : (Nat → Prop) → State → Heap → Prop} {D : va_G} {ad kd sd vd xd : Nat → Nat} {ca : Nat → ClassId} (hE : o_EK E kd sd vd xd) (l : Launch) (x0 : Nat) (gx0 : o_sb x0 = true) (x1 : Int32) (Sj : SSJ) (T0 : STx) (T1 : STx) (Rd : SRd) (Pg : SPg) (Pt : SPt) (Mk : SMk) (Lk : SLk) (Ck : SCk) (Jd : SJd) (Ld : SLd) (Pr : SPr) (rt : Nat) {r : Int32} (h : m_JL_charAt x0 x1 = some r) : o_Cn E l D o_cls (o_tys ca) y_JL_charAt cc_JL_charAt rm_JL_charAt [.ref (vd x0), .int x1] (o_cw ad ca rt Sj T0 T1 Rd Pg Pt Mk Lk Ck Jd Ld Pr) (o_cw ad ca rt Sj T0 T1 Rd Pg Pt Mk Lk Ck Jd Ld Pr) (some (.int r)) := by
  refine o_Cn_of (by decide) (Nat.le_of_ble_eq_true rfl) ?_
  intro p e s m below meth c A ls C hD hP hS hl
  have hDD : ∀ (rt : Nat) (Sj : SSJ) (T0 : STx) (T1 : STx) (Rd : SRd) (Pg : SPg) (Pt : SPt) (Mk : SMk) (Lk : SLk) (Ck : SCk) (Jd : SJd) (Ld : SLd) (Pr : SPr), va_D A (o_cw ad ca rt Sj T0 T1 Rd Pg Pt Mk Lk Ck Jd Ld Pr) := fun _ _ _ _ _ _ _ _ _ _ _ _ _ => o_D_map hD rfl
  have hl : lv_has ls 2 [(0, .ref (vd x0)), (1, .int x1)] := hl
  unfold m_JL_charAt at h
  have C0 := C
  obtain ⟨hx, hb, -, -, -, hown, hts, hK, -, -⟩ := C0
  refine lv_iload_n hx hb d_JL_charAt_0 rfl (lv_at hl 1 rfl) ?_
  refine lv_aload_n hx hb d_JL_charAt_1 rfl (lv_at hl 0 rfl) ?_
  refine va_tlen (v := (o_sl x0)) hx hb (o_sT hE C gx0) hS rfl d_JL_charAt_2 ?_
  obtain ⟨g1, h⟩ := o_gd_some h
  refine o_S (st1 := []) (w1 := (o_cw ad ca rt Sj T0 T1 Rd Pg Pt Mk Lk Ck Jd Ld Pr)) hE.1 C (c_JS_checkIndex hE l _ _ g1) hP (hDD _ _ _ _ _ _ _ _ _ _ _ _ _) hS hl.1 k_3_82 k_3_83 k_1_18 k_3_84 hs_JS_checkIndex rfl rfl ⟨(Nat.le_of_ble_eq_true rfl), (Nat.le_of_ble_eq_true rfl)⟩ rfl (Nat.le_of_ble_eq_true rfl) ⟨Nat.zero_le _, Nat.zero_le _⟩ rfl d_JL_charAt_3 (fun H locs hP hS => ?_)
  refine lv_aload_n hx hb d_JL_charAt_6 rfl (lv_at hl 0 rfl) ?_
  refine lv_iload_n hx hb d_JL_charAt_7 rfl (lv_at hl 1 rfl) ?_
  obtain ⟨g2, h⟩ := o_gd_some h
  refine va_tb (v := .int (o_sa x0 x1.toNatClampNeg)) hx hb (o_sT hE C gx0) hS (o_in_in g2) rfl d_JL_charAt_8 ?_
  refine lv_sipush (v := (255:Int32)) hx hb d_JL_charAt_9 (by decide) ?_
  refine lv_iand hx hb d_JL_charAt_12 ?_
  refine lv_i2c hx hb d_JL_charAt_13 rfl ?_
  obtain ⟨g3, h⟩ := o_gd_some h
  cases h
  exact o_rn (v := (((o_sa x0 x1.toNatClampNeg) &&& (255:Int32)).toUInt32 % 65536).toInt32) C (o_nr_narC g3) hP hS d_JL_charAt_14
set_option maxHeartbeats 4000000 in
set_option maxRecDepth 100000 in
theorem c_JS_charAt {E : (Nat → Prop) → State → Heap → Prop} {D : va_G} {ad kd sd vd xd : Nat → Nat} {ca : Nat → ClassId} (hE : o_EK E kd sd vd xd) (l : Launch) (x0 : Nat) (gx0 : o_sb x0 = true) (x1 : Int32) (Sj : SSJ) (T0 : STx) (T1 : STx) (Rd : SRd) (Pg : SPg) (Pt : SPt) (Mk : SMk) (Lk : SLk) (Ck : SCk) (Jd : SJd) (Ld : SLd) (Pr : SPr) (rt : Nat) {r : Int32} (h : m_JS_charAt x0 x1 = some r) : o_Cn E l D o_cls (o_tys ca) y_JS_charAt cc_JS_charAt rm_JS_charAt [.ref (sd x0), .int x1] (o_cw ad ca rt Sj T0 T1 Rd Pg Pt Mk Lk Ck Jd Ld Pr) (o_cw ad ca rt Sj T0 T1 Rd Pg Pt Mk Lk Ck Jd Ld Pr) (some (.int r)) := by
  refine o_Cn_of (by decide) (Nat.le_of_ble_eq_true rfl) ?_
  intro p e s m below meth c A ls C hD hP hS hl
  have hDD : ∀ (rt : Nat) (Sj : SSJ) (T0 : STx) (T1 : STx) (Rd : SRd) (Pg : SPg) (Pt : SPt) (Mk : SMk) (Lk : SLk) (Ck : SCk) (Jd : SJd) (Ld : SLd) (Pr : SPr), va_D A (o_cw ad ca rt Sj T0 T1 Rd Pg Pt Mk Lk Ck Jd Ld Pr) := fun _ _ _ _ _ _ _ _ _ _ _ _ _ => o_D_map hD rfl
  have hl : lv_has ls 2 [(0, .ref (sd x0)), (1, .int x1)] := hl
  unfold m_JS_charAt at h
  have C0 := C
  obtain ⟨hx, hb, -, -, -, hown, hts, hK, -, -⟩ := C0
  refine lv_aload_n hx hb d_JS_charAt_0 rfl (lv_at hl 0 rfl) ?_
  obtain ⟨q1, hq1, h⟩ := o_bd_some h
  refine o_VR (K := "java/lang/String") (st1 := [.int q1]) (w1 := (o_cw ad ca rt Sj T0 T1 Rd Pg Pt Mk Lk Ck Jd Ld Pr)) hE.1 C (c_JS_isLatin1 hE l x0 gx0 Sj T0 T1 Rd Pg Pt Mk Lk Ck Jd Ld Pr rt hq1) hP (hDD _ _ _ _ _ _ _ _ _ _ _ _ _) hS hl.1 (o_rs hE C gx0 hS) k_3_75 k_3_76 k_3_77 k_1_18 k_3_78 hv_JS_isLatin1 rfl rfl ⟨(Nat.le_of_ble_eq_true rfl), (Nat.le_of_ble_eq_true rfl)⟩ rfl (Nat.le_of_ble_eq_true rfl) ⟨Nat.zero_le _, Nat.zero_le _⟩ rfl d_JS_charAt_1 (fun H locs hP hS => ?_)
  refine lv_if_eq (tgt := 16) hx hb d_JS_charAt_4 (by decide) (fun c1 => ?_) (fun c1 => ?_)
  · replace h := o_tt c1 h
    refine lv_aload_n hx hb d_JS_charAt_16 rfl (lv_at hl 0 rfl) ?_
    refine vk_getf (v := .ref (vd x0)) hx hb (o_sv hE C gx0) hS hown (hts _ k_10_101) (fun _ h9 => h9) d_JS_charAt_17 ?_
    refine lv_iload_n hx hb d_JS_charAt_20 rfl (lv_at hl 1 rfl) ?_
    cases h
  · replace h := o_ff c1 h
    refine lv_aload_n hx hb d_JS_charAt_7 rfl (lv_at hl 0 rfl) ?_
    refine vk_getf (v := .ref (vd x0)) hx hb (o_sv hE C gx0) hS hown (hts _ k_10_101) (fun _ h9 => h9) d_JS_charAt_8 ?_
    refine lv_iload_n hx hb d_JS_charAt_11 rfl (lv_at hl 1 rfl) ?_
    obtain ⟨q2, hq2, h⟩ := o_bd_some h
    refine o_S (st1 := [.int q2]) (w1 := (o_cw ad ca rt Sj T0 T1 Rd Pg Pt Mk Lk Ck Jd Ld Pr)) hE.1 C (c_JL_charAt hE l x0 gx0 x1 Sj T0 T1 Rd Pg Pt Mk Lk Ck Jd Ld Pr rt hq2) hP (hDD _ _ _ _ _ _ _ _ _ _ _ _ _) hS hl.1 k_3_79 k_3_80 k_1_19 k_3_81 hs_JL_charAt rfl rfl ⟨(Nat.le_of_ble_eq_true rfl), (Nat.le_of_ble_eq_true rfl)⟩ rfl (Nat.le_of_ble_eq_true rfl) ⟨Nat.zero_le _, Nat.zero_le _⟩ rfl d_JS_charAt_12 (fun H locs hP hS => ?_)
    obtain ⟨g2, h⟩ := o_gd_some h
    cases h
    exact o_rn C (o_nr_narC g2) hP hS d_JS_charAt_15
set_option maxHeartbeats 4000000 in
set_option maxRecDepth 100000 in
theorem w_Rd_readWord_b2 {E : (Nat → Prop) → State → Heap → Prop} {p : Program} {l : Launch} {e : Env} {s : State} {m : MethodId} {args : Array Value} {below : List Frame} {meth : Method} {c : Code} {D : va_G} {ad kd sd vd xd : Nat → Nat} {ca : Nat → ClassId} {A : Nat → Prop} {Q : State → Prop} (hE : o_EK E kd sd vd xd) (C : o_Cx E p s m args meth c D o_cls (o_tys ca) "SchemaJudge$Reader" b_Rd_readWord (some .boolean) 3 cc_Rd_readWord A) (hDD : ∀ (rt : Nat) (Sj : SSJ) (T0 : STx) (T1 : STx) (Rd : SRd) (Pg : SPg) (Pt : SPt) (Mk : SMk) (Lk : SLk) (Ck : SCk) (Jd : SJd) (Ld : SLd) (Pr : SPr), va_D A (o_cw ad ca rt Sj T0 T1 Rd Pg Pt Mk Lk Ck Jd Ld Pr)) (n : Nat) (u2_x1 : Nat) (gu2_x1 : o_sb u2_x1 = true) (u2_Sj : SSJ) (u2_T0 : STx) (u2_T1 : STx) (u2_Pg : SPg) (u2_Pt : SPt) (u2_Mk : SMk) (u2_Lk : SLk) (u2_Ck : SCk) (u2_Jd : SJd) (u2_Ld : SLd) (u2_Pr : SPr) (u2_rt : Nat) (z : Int32 × SRd) (q : Nat × Int32 × SRd) (h : m_Rd_readWord_b2 n u2_x1 z = some q) (h0 : q.1 = 0 → o_At p l e rm_Rd_readWord s m args below meth c Q o_cls D A 3 2 [] (o_cw ad ca u2_rt u2_Sj u2_T0 u2_T1 q.2.2 u2_Pg u2_Pt u2_Mk u2_Lk u2_Ck u2_Jd u2_Ld u2_Pr) [(0, .ref (ad 23)), (1, .ref (sd u2_x1)), (2, .int q.2.1)]) (h1 : q.1 ≠ 0 → (if q.1 = 1 then o_At p l e rm_Rd_readWord s m args below meth c Q o_cls D A 3 22 [] (o_cw ad ca u2_rt u2_Sj u2_T0 u2_T1 q.2.2 u2_Pg u2_Pt u2_Mk u2_Lk u2_Ck u2_Jd u2_Ld u2_Pr) [(0, .ref (ad 23))] else o_At p l e rm_Rd_readWord s m args below meth c Q o_cls D A 3 47 [] (o_cw ad ca u2_rt u2_Sj u2_T0 u2_T1 q.2.2 u2_Pg u2_Pt u2_Mk u2_Lk u2_Ck u2_Jd u2_Ld u2_Pr) [])) : o_At p l e rm_Rd_readWord s m args below meth c Q o_cls D A 3 2 [] (o_cw ad ca u2_rt u2_Sj u2_T0 u2_T1 z.2 u2_Pg u2_Pt u2_Mk u2_Lk u2_Ck u2_Jd u2_Ld u2_Pr) [(0, .ref (ad 23)), (1, .ref (sd u2_x1)), (2, .int z.1)] := by
  unfold m_Rd_readWord_b2 at h
  intro H locs ls hP hS hl
  have C0 := C
  obtain ⟨hx, hb, -, -, -, hown, hts, hK, -, -⟩ := C0
  refine lv_iload_n hx hb d_Rd_readWord_2 rfl (lv_at hl 2 rfl) ?_
  refine lv_aload_n hx hb d_Rd_readWord_3 rfl (lv_at hl 1 rfl) ?_
  obtain ⟨q1, hq1, h⟩ := o_bd_some h
  refine o_VR (K := "java/lang/String") (st1 := [.int q1, .int z.1]) (w1 := (o_cw ad ca u2_rt u2_Sj u2_T0 u2_T1 z.2 u2_Pg u2_Pt u2_Mk u2_Lk u2_Ck u2_Jd u2_Ld u2_Pr)) hE.1 C (c_JS_length hE l u2_x1 gu2_x1 u2_Sj u2_T0 u2_T1 z.2 u2_Pg u2_Pt u2_Mk u2_Lk u2_Ck u2_Jd u2_Ld u2_Pr u2_rt hq1) hP (hDD _ _ _ _ _ _ _ _ _ _ _ _ _) hS hl.1 (o_rs hE C gu2_x1 hS) k_3_61 k_3_62 k_3_63 k_1_18 k_3_64 hv_JS_length rfl rfl ⟨(Nat.le_of_ble_eq_true rfl), (Nat.le_of_ble_eq_true rfl)⟩ rfl (Nat.le_of_ble_eq_true rfl) ⟨Nat.zero_le _, Nat.zero_le _⟩ rfl d_Rd_readWord_4 (fun H locs hP hS => ?_)
  refine lv_icmp_ge (tgt := 47) hx hb d_Rd_readWord_7 (by decide) (fun c1 => ?_) (fun c1 => ?_)
  · replace h := o_tt c1 h
    cases h
    exact h1 (Nat.succ_ne_zero 1) _ _ _ hP hS (lv_sub hl [] rfl)
  · replace h := o_ff c1 h
    refine lv_aload_n hx hb d_Rd_readWord_10 rfl (lv_at hl 0 rfl) ?_
    obtain ⟨q2, hq2, h⟩ := o_bd_some h
    refine o_V (st1 := [.int q2]) (w1 := (o_cw ad ca u2_rt u2_Sj u2_T0 u2_T1 z.2 u2_Pg u2_Pt u2_Mk u2_Lk u2_Ck u2_Jd u2_Ld u2_Pr)) hE.1 C (c_Rd_peek hE l z.2 u2_Sj u2_T0 u2_T1 u2_Pg u2_Pt u2_Mk u2_Lk u2_Ck u2_Jd u2_Ld u2_Pr u2_rt hq2) hP (hDD _ _ _ _ _ _ _ _ _ _ _ _ _) hS hl.1 rfl cw_23 k_3_38 k_3_40 k_s_3 k_1_3 k_3_41 hv_Rd_peek rfl rfl ⟨(Nat.le_of_ble_eq_true rfl), (Nat.le_of_ble_eq_true rfl)⟩ rfl (Nat.le_of_ble_eq_true rfl) ⟨Nat.zero_le _, Nat.zero_le _⟩ rfl d_Rd_readWord_11 (fun H locs hP hS => ?_)
    refine lv_aload_n hx hb d_Rd_readWord_14 rfl (lv_at hl 1 rfl) ?_
    refine lv_iload_n hx hb d_Rd_readWord_15 rfl (lv_at hl 2 rfl) ?_
    obtain ⟨q3, hq3, h⟩ := o_bd_some h
    refine o_VR (K := "java/lang/String") (st1 := [.int q3, .int q2]) (w1 := (o_cw ad ca u2_rt u2_Sj u2_T0 u2_T1 z.2 u2_Pg u2_Pt u2_Mk u2_Lk u2_Ck u2_Jd u2_Ld u2_Pr)) hE.1 C (c_JS_charAt hE l u2_x1 gu2_x1 z.1 u2_Sj u2_T0 u2_T1 z.2 u2_Pg u2_Pt u2_Mk u2_Lk u2_Ck u2_Jd u2_Ld u2_Pr u2_rt hq3) hP (hDD _ _ _ _ _ _ _ _ _ _ _ _ _) hS hl.1 (o_rs hE C gu2_x1 hS) k_3_71 k_3_72 k_3_73 k_1_18 k_3_74 hv_JS_charAt rfl rfl ⟨(Nat.le_of_ble_eq_true rfl), (Nat.le_of_ble_eq_true rfl)⟩ rfl (Nat.le_of_ble_eq_true rfl) ⟨Nat.zero_le _, Nat.zero_le _⟩ rfl d_Rd_readWord_16 (fun H locs hP hS => ?_)
    refine lv_icmp_eq (tgt := 31) hx hb d_Rd_readWord_19 (by decide) (fun c2 => ?_) (fun c2 => ?_)
    · replace h := o_tt c2 h
      refine lv_aload_n hx hb d_Rd_readWord_31 rfl (lv_at hl 0 rfl) ?_
      refine lv_dup hx hb d_Rd_readWord_32 rfl ?_
      refine o_get (v := .int (Rd_position z.2)) C in_Rd hP 23 cw_23 rfl 3 (by decide) k_1_97 rfl rfl d_Rd_readWord_33 ?_
      refine lv_iconst (v := (1:Int32)) hx hb d_Rd_readWord_36 (by decide) ?_
      refine lv_iadd hx hb d_Rd_readWord_37 ?_
      refine o_put (v := .int ((Rd_position z.2) + (1:Int32))) (ty := .int) (w1 := (o_cw ad ca u2_rt u2_Sj u2_T0 u2_T1 (Rd_mk (Rd_words z.2) (Rd_wordCount z.2) ((Rd_position z.2) + (1:Int32)) (Rd_limit z.2) (Rd_wrongPlace z.2)) u2_Pg u2_Pt u2_Mk u2_Lk u2_Ck u2_Jd u2_Ld u2_Pr)) C in_Rd t_Rd t_Rd_ok n_Rd hP (hDD _ _ _ _ _ _ _ _ _ _ _ _ _) hS 23 cw_23 rfl 3 (by decide) k_1_97 rfl rfl (by decide +kernel) rfl rfl (Nat.le_of_ble_eq_true rfl) rfl d_Rd_readWord_38 (fun H locs hP hS => ?_)
      obtain ⟨x2_41, ex2_41⟩ : ∃ y : Int32, y = z.1 + (1:Int32) := ⟨_, rfl⟩
      replace h := o_nm_at ex2_41 h
      refine lv_iinc (v := x2_41) (lv' := [(2, .int x2_41), (0, .ref (ad 23)), (1, .ref (sd u2_x1))]) hx hb d_Rd_readWord_41 hl (k := 2) rfl (by rw [ex2_41]; rfl) (by decide) rfl (fun ls hl => ?_)
      refine lv_goto (tgt := 2) hx hb d_Rd_readWord_44 (by decide) ?_
      cases h
      exact h0 rfl _ _ _ hP hS (lv_sub hl [1, 2, 0] rfl)
    · replace h := o_ff c2 h
      cases h
      exact h1 (Nat.succ_ne_zero 0) _ _ _ hP hS (lv_sub hl [0] rfl)
set_option maxHeartbeats 4000000 in
set_option maxRecDepth 100000 in
theorem c_Rd_readWord {E : (Nat → Prop) → State → Heap → Prop} {D : va_G} {ad kd sd vd xd : Nat → Nat} {ca : Nat → ClassId} (hE : o_EK E kd sd vd xd) (l : Launch) (n : Nat) (x1 : Nat) (gx1 : o_sb x1 = true) (Rd : SRd) (Sj : SSJ) (T0 : STx) (T1 : STx) (Pg : SPg) (Pt : SPt) (Mk : SMk) (Lk : SLk) (Ck : SCk) (Jd : SJd) (Ld : SLd) (Pr : SPr) (rt : Nat) {r : Int32 × SRd} (h : m_Rd_readWord n x1 Rd = some r) : o_Cn E l D o_cls (o_tys ca) y_Rd_readWord cc_Rd_readWord rm_Rd_readWord [.ref (ad 23), .ref (sd x1)] (o_cw ad ca rt Sj T0 T1 Rd Pg Pt Mk Lk Ck Jd Ld Pr) (o_cw ad ca rt Sj T0 T1 r.2 Pg Pt Mk Lk Ck Jd Ld Pr) (some (.int r.1)) := by
  refine o_Cn_of (by decide) (Nat.le_of_ble_eq_true rfl) ?_
  intro p e s m below meth c A ls C hD hP hS hl
  have hDD : ∀ (rt : Nat) (Sj : SSJ) (T0 : STx) (T1 : STx) (Rd : SRd) (Pg : SPg) (Pt : SPt) (Mk : SMk) (Lk : SLk) (Ck : SCk) (Jd : SJd) (Ld : SLd) (Pr : SPr), va_D A (o_cw ad ca rt Sj T0 T1 Rd Pg Pt Mk Lk Ck Jd Ld Pr) := fun _ _ _ _ _ _ _ _ _ _ _ _ _ => o_D_map hD rfl
  have hl : lv_has ls 3 [(0, .ref (ad 23)), (1, .ref (sd x1))] := hl
  unfold m_Rd_readWord at h
  have C0 := C
  obtain ⟨hx, hb, -, -, -, hown, hts, hK, -, -⟩ := C0
  refine lv_iconst (v := (0:Int32)) hx hb d_Rd_readWord_0 (by decide) ?_
  refine lv_istore_n (lv' := [(2, .int (0:Int32)), (0, .ref (ad 23)), (1, .ref (sd x1))]) hx hb d_Rd_readWord_1 rfl hl (by decide) rfl (fun ls hl => ?_)
  obtain ⟨q4, hq4, h⟩ := o_bd_some h
  refine o_sim2 (AH := fun zz => o_At p l e rm_Rd_readWord s m _ below meth c _ o_cls D A 3 2 [] (o_cw ad ca rt Sj T0 T1 zz.2 Pg Pt Mk Lk Ck Jd Ld Pr) [(0, .ref (ad 23)), (1, .ref (sd x1)), (2, .int zz.1)]) (AX := fun qq => if qq.1 = 1 then o_At p l e rm_Rd_readWord s m _ below meth c _ o_cls D A 3 22 [] (o_cw ad ca rt Sj T0 T1 qq.2.2 Pg Pt Mk Lk Ck Jd Ld Pr) [(0, .ref (ad 23))] else o_At p l e rm_Rd_readWord s m _ below meth c _ o_cls D A 3 47 [] (o_cw ad ca rt Sj T0 T1 qq.2.2 Pg Pt Mk Lk Ck Jd Ld Pr) []) (fun zz qq h h0 h1 => w_Rd_readWord_b2 hE C hDD n x1 gx1 Sj T0 T1 Pg Pt Mk Lk Ck Jd Ld Pr rt zz qq h h0 h1) n _ q4 hq4 ?_ _ _ _ hP hS (lv_sub hl [1, 2, 0] rfl)
  by_cases c4 : q4.1 = 1
  · replace h := o_tt c4 h
    refine o_ip c4 ?_
    intro H locs ls hP hS hl
    refine lv_aload_n hx hb d_Rd_readWord_22 rfl (lv_at hl 0 rfl) ?_
    refine lv_aload_n hx hb d_Rd_readWord_23 rfl (lv_at hl 0 rfl) ?_
    refine o_get (v := .int (Rd_position q4.2.2)) C in_Rd hP 23 cw_23 rfl 3 (by decide) k_1_97 rfl rfl d_Rd_readWord_24 ?_
    obtain ⟨q5, hq5, h⟩ := o_bd_some h
    refine o_V (st1 := [.int q5.1]) (w1 := (o_cw ad ca rt Sj T0 T1 q5.2 Pg Pt Mk Lk Ck Jd Ld Pr)) hE.1 C (c_Rd_refuse hE l (Rd_position q4.2.2) q4.2.2 Sj T0 T1 Pg Pt Mk Lk Ck Jd Ld Pr rt hq5) hP (hDD _ _ _ _ _ _ _ _ _ _ _ _ _) hS hl.1 rfl cw_23 k_3_48 k_3_50 k_s_4 k_1_3 k_3_51 hv_Rd_refuse rfl rfl ⟨(Nat.le_of_ble_eq_true rfl), (Nat.le_of_ble_eq_true rfl)⟩ rfl (Nat.le_of_ble_eq_true rfl) ⟨Nat.zero_le _, Nat.zero_le _⟩ rfl d_Rd_readWord_27 (fun H locs hP hS => ?_)
    obtain ⟨g3, h⟩ := o_gd_some h
    cases h
    exact o_rz C (o_zb_nar g3) hP hS d_Rd_readWord_30
  replace h := o_ff c4 h
  refine o_in_ c4 ?_
  intro H locs ls hP hS hl
  refine lv_iconst (v := (1:Int32)) hx hb d_Rd_readWord_47 (by decide) ?_
  cases h
  exact o_rz (v := (1:Int32)) C o_nar1 hP hS d_Rd_readWord_48
set_option maxHeartbeats 4000000 in
set_option maxRecDepth 100000 in
theorem w_Rd_readExponent_j40 {E : (Nat → Prop) → State → Heap → Prop} {p : Program} {l : Launch} {e : Env} {s : State} {m : MethodId} {args : Array Value} {below : List Frame} {meth : Method} {c : Code} {D : va_G} {ad kd sd vd xd : Nat → Nat} {ca : Nat → ClassId} {A : Nat → Prop} {Q : State → Prop} (hE : o_EK E kd sd vd xd) (C : o_Cx E p s m args meth c D o_cls (o_tys ca) "SchemaJudge$Reader" b_Rd_readExponent (some .int) 4 cc_Rd_readExponent A) (hDD : ∀ (rt : Nat) (Sj : SSJ) (T0 : STx) (T1 : STx) (Rd : SRd) (Pg : SPg) (Pt : SPt) (Mk : SMk) (Lk : SLk) (Ck : SCk) (Jd : SJd) (Ld : SLd) (Pr : SPr), va_D A (o_cw ad ca rt Sj T0 T1 Rd Pg Pt Mk Lk Ck Jd Ld Pr)) (n : Nat) (u4_Sj : SSJ) (u4_T0 : STx) (u4_T1 : STx) (u4_Pg : SPg) (u4_Pt : SPt) (u4_Mk : SMk) (u4_Lk : SLk) (u4_Ck : SCk) (u4_Jd : SJd) (u4_Ld : SLd) (u4_Pr : SPr) (u4_rt : Nat) (x1 : Int32) (x2 : Int32) (Rd : SRd) {q : Nat × Int32 × Int32 × SRd} (h : m_Rd_readExponent_j40 n x1 x2 Rd = some q) (h0 : q.1 = 0 → o_At p l e rm_Rd_readExponent s m args below meth c Q o_cls D A 4 4 [] (o_cw ad ca u4_rt u4_Sj u4_T0 u4_T1 q.2.2.2 u4_Pg u4_Pt u4_Mk u4_Lk u4_Ck u4_Jd u4_Ld u4_Pr) [(0, .ref (ad 23)), (1, .int q.2.1), (2, .int q.2.2.1)]) (h1 : q.1 ≠ 0 → (if q.1 = 1 then o_At p l e rm_Rd_readExponent s m args below meth c Q o_cls D A 4 23 [] (o_cw ad ca u4_rt u4_Sj u4_T0 u4_T1 q.2.2.2 u4_Pg u4_Pt u4_Mk u4_Lk u4_Ck u4_Jd u4_Ld u4_Pr) [(1, .int q.2.1)] else o_At p l e rm_Rd_readExponent s m args below meth c Q o_cls D A 4 56 [] (o_cw ad ca u4_rt u4_Sj u4_T0 u4_T1 q.2.2.2 u4_Pg u4_Pt u4_Mk u4_Lk u4_Ck u4_Jd u4_Ld u4_Pr) [(1, .int q.2.1)])) : o_At p l e rm_Rd_readExponent s m args below meth c Q o_cls D A 4 40 [] (o_cw ad ca u4_rt u4_Sj u4_T0 u4_T1 Rd u4_Pg u4_Pt u4_Mk u4_Lk u4_Ck u4_Jd u4_Ld u4_Pr) [(0, .ref (ad 23)), (1, .int x1), (2, .int x2)] := by
  unfold m_Rd_readExponent_j40 at h
  intro H locs ls hP hS hl
  have C0 := C
  obtain ⟨hx, hb, -, -, -, hown, hts, hK, -, -⟩ := C0
  refine lv_aload_n hx hb d_Rd_readExponent_40 rfl (lv_at hl 0 rfl) ?_
  refine lv_dup hx hb d_Rd_readExponent_41 rfl ?_
  refine o_get (v := .int (Rd_position Rd)) C in_Rd hP 23 cw_23 rfl 3 (by decide) k_1_97 rfl rfl d_Rd_readExponent_42 ?_
  refine lv_iconst (v := (1:Int32)) hx hb d_Rd_readExponent_45 (by decide) ?_
  refine lv_iadd hx hb d_Rd_readExponent_46 ?_
  refine o_put (v := .int ((Rd_position Rd) + (1:Int32))) (ty := .int) (w1 := (o_cw ad ca u4_rt u4_Sj u4_T0 u4_T1 (Rd_mk (Rd_words Rd) (Rd_wordCount Rd) ((Rd_position Rd) + (1:Int32)) (Rd_limit Rd) (Rd_wrongPlace Rd)) u4_Pg u4_Pt u4_Mk u4_Lk u4_Ck u4_Jd u4_Ld u4_Pr)) C in_Rd t_Rd t_Rd_ok n_Rd hP (hDD _ _ _ _ _ _ _ _ _ _ _ _ _) hS 23 cw_23 rfl 3 (by decide) k_1_97 rfl rfl (by decide +kernel) rfl rfl (Nat.le_of_ble_eq_true rfl) rfl d_Rd_readExponent_47 (fun H locs hP hS => ?_)
  obtain ⟨x2_50, ex2_50⟩ : ∃ y : Int32, y = x2 + (1:Int32) := ⟨_, rfl⟩
  replace h := o_nm_at ex2_50 h
  refine lv_iinc (v := x2_50) (lv' := [(2, .int x2_50), (0, .ref (ad 23)), (1, .int x1)]) hx hb d_Rd_readExponent_50 hl (k := 2) rfl (by rw [ex2_50]; rfl) (by decide) rfl (fun ls hl => ?_)
  refine lv_goto (tgt := 4) hx hb d_Rd_readExponent_53 (by decide) ?_
  cases h
  exact h0 rfl _ _ _ hP hS (lv_sub hl [1, 2, 0] rfl)
set_option maxHeartbeats 4000000 in
set_option maxRecDepth 100000 in
theorem w_Rd_readExponent_b4 {E : (Nat → Prop) → State → Heap → Prop} {p : Program} {l : Launch} {e : Env} {s : State} {m : MethodId} {args : Array Value} {below : List Frame} {meth : Method} {c : Code} {D : va_G} {ad kd sd vd xd : Nat → Nat} {ca : Nat → ClassId} {A : Nat → Prop} {Q : State → Prop} (hE : o_EK E kd sd vd xd) (C : o_Cx E p s m args meth c D o_cls (o_tys ca) "SchemaJudge$Reader" b_Rd_readExponent (some .int) 4 cc_Rd_readExponent A) (hDD : ∀ (rt : Nat) (Sj : SSJ) (T0 : STx) (T1 : STx) (Rd : SRd) (Pg : SPg) (Pt : SPt) (Mk : SMk) (Lk : SLk) (Ck : SCk) (Jd : SJd) (Ld : SLd) (Pr : SPr), va_D A (o_cw ad ca rt Sj T0 T1 Rd Pg Pt Mk Lk Ck Jd Ld Pr)) (n : Nat) (u4_Sj : SSJ) (u4_T0 : STx) (u4_T1 : STx) (u4_Pg : SPg) (u4_Pt : SPt) (u4_Mk : SMk) (u4_Lk : SLk) (u4_Ck : SCk) (u4_Jd : SJd) (u4_Ld : SLd) (u4_Pr : SPr) (u4_rt : Nat) (z : Int32 × Int32 × SRd) (q : Nat × Int32 × Int32 × SRd) (h : m_Rd_readExponent_b4 n z = some q) (h0 : q.1 = 0 → o_At p l e rm_Rd_readExponent s m args below meth c Q o_cls D A 4 4 [] (o_cw ad ca u4_rt u4_Sj u4_T0 u4_T1 q.2.2.2 u4_Pg u4_Pt u4_Mk u4_Lk u4_Ck u4_Jd u4_Ld u4_Pr) [(0, .ref (ad 23)), (1, .int q.2.1), (2, .int q.2.2.1)]) (h1 : q.1 ≠ 0 → (if q.1 = 1 then o_At p l e rm_Rd_readExponent s m args below meth c Q o_cls D A 4 23 [] (o_cw ad ca u4_rt u4_Sj u4_T0 u4_T1 q.2.2.2 u4_Pg u4_Pt u4_Mk u4_Lk u4_Ck u4_Jd u4_Ld u4_Pr) [(1, .int q.2.1)] else o_At p l e rm_Rd_readExponent s m args below meth c Q o_cls D A 4 56 [] (o_cw ad ca u4_rt u4_Sj u4_T0 u4_T1 q.2.2.2 u4_Pg u4_Pt u4_Mk u4_Lk u4_Ck u4_Jd u4_Ld u4_Pr) [(1, .int q.2.1)])) : o_At p l e rm_Rd_readExponent s m args below meth c Q o_cls D A 4 4 [] (o_cw ad ca u4_rt u4_Sj u4_T0 u4_T1 z.2.2 u4_Pg u4_Pt u4_Mk u4_Lk u4_Ck u4_Jd u4_Ld u4_Pr) [(0, .ref (ad 23)), (1, .int z.1), (2, .int z.2.1)] := by
  unfold m_Rd_readExponent_b4 at h
  intro H locs ls hP hS hl
  have C0 := C
  obtain ⟨hx, hb, -, -, -, hown, hts, hK, -, -⟩ := C0
  refine lv_iload_n hx hb d_Rd_readExponent_4 rfl (lv_at hl 2 rfl) ?_
  refine lv_sipush (v := (8192:Int32)) hx hb d_Rd_readExponent_5 (by decide) ?_
  refine lv_icmp_ge (tgt := 56) hx hb d_Rd_readExponent_8 (by decide) (fun c1 => ?_) (fun c1 => ?_)
  · replace h := o_tt c1 h
    cases h
    exact h1 (Nat.succ_ne_zero 1) _ _ _ hP hS (lv_sub hl [1] rfl)
  · replace h := o_ff c1 h
    refine lv_aload_n hx hb d_Rd_readExponent_11 rfl (lv_at hl 0 rfl) ?_
    obtain ⟨q1, hq1, h⟩ := o_bd_some h
    refine o_V (st1 := [.int q1]) (w1 := (o_cw ad ca u4_rt u4_Sj u4_T0 u4_T1 z.2.2 u4_Pg u4_Pt u4_Mk u4_Lk u4_Ck u4_Jd u4_Ld u4_Pr)) hE.1 C (c_Rd_peek hE l z.2.2 u4_Sj u4_T0 u4_T1 u4_Pg u4_Pt u4_Mk u4_Lk u4_Ck u4_Jd u4_Ld u4_Pr u4_rt hq1) hP (hDD _ _ _ _ _ _ _ _ _ _ _ _ _) hS hl.1 rfl cw_23 k_3_38 k_3_40 k_s_3 k_1_3 k_3_41 hv_Rd_peek rfl rfl ⟨(Nat.le_of_ble_eq_true rfl), (Nat.le_of_ble_eq_true rfl)⟩ rfl (Nat.le_of_ble_eq_true rfl) ⟨Nat.zero_le _, Nat.zero_le _⟩ rfl d_Rd_readExponent_12 (fun H locs hP hS => ?_)
    refine lv_istore_n (lv' := [(3, .int q1), (0, .ref (ad 23)), (1, .int z.1), (2, .int z.2.1)]) hx hb d_Rd_readExponent_15 rfl hl (by decide) rfl (fun ls hl => ?_)
    refine lv_iload_n hx hb d_Rd_readExponent_16 rfl (lv_at hl 0 rfl) ?_
    obtain ⟨q2, hq2, h⟩ := o_bd_some h
    refine o_SN (st1 := [.int q2]) (w1 := (o_cw ad ca u4_rt u4_Sj u4_T0 u4_T1 z.2.2 u4_Pg u4_Pt u4_Mk u4_Lk u4_Ck u4_Jd u4_Ld u4_Pr)) hE.1 C (c_SJ_isDigit hE l q1 u4_Sj u4_T0 u4_T1 z.2.2 u4_Pg u4_Pt u4_Mk u4_Lk u4_Ck u4_Jd u4_Ld u4_Pr u4_rt hq2) hP (hDD _ _ _ _ _ _ _ _ _ _ _ _ _) hS hl.1 (hE.2.1 _ _ _ C.2.2.2.2.2.2.2.2.2 _ nw_4) k_3_46 k_1_1 k_3_47 hs_SJ_isDigit rfl rfl ⟨(Nat.le_of_ble_eq_true rfl), (Nat.le_of_ble_eq_true rfl)⟩ rfl (Nat.le_of_ble_eq_true rfl) ⟨Nat.zero_le _, Nat.zero_le _⟩ rfl d_Rd_readExponent_17 (fun H locs hP hS => ?_)
    refine lv_if_ne (tgt := 25) hx hb d_Rd_readExponent_20 (by decide) (fun c2 => ?_) (fun c2 => ?_)
    · replace h := o_ff c2 h
      refine lv_iload_n hx hb d_Rd_readExponent_25 rfl (lv_at hl 3 rfl) ?_
      refine lv_iconst (v := (3:Int32)) hx hb d_Rd_readExponent_26 (by decide) ?_
      refine lv_icmp_ge (tgt := 40) hx hb d_Rd_readExponent_27 (by decide) (fun c3 => ?_) (fun c3 => ?_)
      · replace h := o_tt c3 h
        exact w_Rd_readExponent_j40 hE C hDD n u4_Sj u4_T0 u4_T1 u4_Pg u4_Pt u4_Mk u4_Lk u4_Ck u4_Jd u4_Ld u4_Pr u4_rt z.1 z.2.1 z.2.2 h h0 h1 _ _ _ hP hS (lv_sub hl [1, 2, 3] rfl)
      · replace h := o_ff c3 h
        refine lv_iload_n hx hb d_Rd_readExponent_30 rfl (lv_at hl 2 rfl) ?_
        refine lv_bipush (v := (10:Int32)) hx hb d_Rd_readExponent_31 (by decide) ?_
        refine lv_imul hx hb d_Rd_readExponent_33 ?_
        refine lv_iload_n hx hb d_Rd_readExponent_34 rfl (lv_at hl 0 rfl) ?_
        refine lv_iadd hx hb d_Rd_readExponent_35 ?_
        refine lv_bipush (v := (48:Int32)) hx hb d_Rd_readExponent_36 (by decide) ?_
        refine lv_isub hx hb d_Rd_readExponent_38 ?_
        refine lv_topi (fun x1_39 ex1_39 => ?_)
        replace h := o_nm_at ex1_39 h
        refine lv_istore_n (lv' := [(1, .int x1_39), (3, .int q1), (0, .ref (ad 23)), (2, .int z.2.1)]) hx hb d_Rd_readExponent_39 rfl hl (by decide) rfl (fun ls hl => ?_)
        exact w_Rd_readExponent_j40 hE C hDD n u4_Sj u4_T0 u4_T1 u4_Pg u4_Pt u4_Mk u4_Lk u4_Ck u4_Jd u4_Ld u4_Pr u4_rt x1_39 z.2.1 z.2.2 h h0 h1 _ _ _ hP hS (lv_sub hl [2, 0, 3] rfl)
    · replace h := o_tt c2 h
      cases h
      exact h1 (Nat.succ_ne_zero 0) _ _ _ hP hS (lv_sub hl [2] rfl)
set_option maxHeartbeats 4000000 in
set_option maxRecDepth 100000 in
theorem c_Rd_readExponent {E : (Nat → Prop) → State → Heap → Prop} {D : va_G} {ad kd sd vd xd : Nat → Nat} {ca : Nat → ClassId} (hE : o_EK E kd sd vd xd) (l : Launch) (n : Nat)  (Rd : SRd) (Sj : SSJ) (T0 : STx) (T1 : STx) (Pg : SPg) (Pt : SPt) (Mk : SMk) (Lk : SLk) (Ck : SCk) (Jd : SJd) (Ld : SLd) (Pr : SPr) (rt : Nat) {r : Int32 × SRd} (h : m_Rd_readExponent n Rd = some r) : o_Cn E l D o_cls (o_tys ca) y_Rd_readExponent cc_Rd_readExponent rm_Rd_readExponent [.ref (ad 23)] (o_cw ad ca rt Sj T0 T1 Rd Pg Pt Mk Lk Ck Jd Ld Pr) (o_cw ad ca rt Sj T0 T1 r.2 Pg Pt Mk Lk Ck Jd Ld Pr) (some (.int r.1)) := by
  refine o_Cn_of (by decide) (Nat.le_of_ble_eq_true rfl) ?_
  intro p e s m below meth c A ls C hD hP hS hl
  have hDD : ∀ (rt : Nat) (Sj : SSJ) (T0 : STx) (T1 : STx) (Rd : SRd) (Pg : SPg) (Pt : SPt) (Mk : SMk) (Lk : SLk) (Ck : SCk) (Jd : SJd) (Ld : SLd) (Pr : SPr), va_D A (o_cw ad ca rt Sj T0 T1 Rd Pg Pt Mk Lk Ck Jd Ld Pr) := fun _ _ _ _ _ _ _ _ _ _ _ _ _ => o_D_map hD rfl
  have hl : lv_has ls 4 [(0, .ref (ad 23))] := hl
  unfold m_Rd_readExponent at h
  have C0 := C
  obtain ⟨hx, hb, -, -, -, hown, hts, hK, -, -⟩ := C0
  refine lv_iconst (v := (0:Int32)) hx hb d_Rd_readExponent_0 (by decide) ?_
  refine lv_istore_n (lv' := [(1, .int (0:Int32)), (0, .ref (ad 23))]) hx hb d_Rd_readExponent_1 rfl hl (by decide) rfl (fun ls hl => ?_)
  refine lv_iconst (v := (0:Int32)) hx hb d_Rd_readExponent_2 (by decide) ?_
  refine lv_istore_n (lv' := [(2, .int (0:Int32)), (1, .int (0:Int32)), (0, .ref (ad 23))]) hx hb d_Rd_readExponent_3 rfl hl (by decide) rfl (fun ls hl => ?_)
  obtain ⟨q3, hq3, h⟩ := o_bd_some h
  refine o_sim2 (AH := fun zz => o_At p l e rm_Rd_readExponent s m _ below meth c _ o_cls D A 4 4 [] (o_cw ad ca rt Sj T0 T1 zz.2.2 Pg Pt Mk Lk Ck Jd Ld Pr) [(0, .ref (ad 23)), (1, .int zz.1), (2, .int zz.2.1)]) (AX := fun qq => if qq.1 = 1 then o_At p l e rm_Rd_readExponent s m _ below meth c _ o_cls D A 4 23 [] (o_cw ad ca rt Sj T0 T1 qq.2.2.2 Pg Pt Mk Lk Ck Jd Ld Pr) [(1, .int qq.2.1)] else o_At p l e rm_Rd_readExponent s m _ below meth c _ o_cls D A 4 56 [] (o_cw ad ca rt Sj T0 T1 qq.2.2.2 Pg Pt Mk Lk Ck Jd Ld Pr) [(1, .int qq.2.1)]) (fun zz qq h h0 h1 => w_Rd_readExponent_b4 hE C hDD n Sj T0 T1 Pg Pt Mk Lk Ck Jd Ld Pr rt zz qq h h0 h1) n _ q3 hq3 ?_ _ _ _ hP hS (lv_sub hl [2, 1, 0] rfl)
  by_cases c4 : q3.1 = 1
  · replace h := o_tt c4 h
    refine o_ip c4 ?_
    intro H locs ls hP hS hl
    refine lv_iload_n hx hb d_Rd_readExponent_23 rfl (lv_at hl 0 rfl) ?_
    cases h
    exact o_ri C hP hS d_Rd_readExponent_24
  replace h := o_ff c4 h
  refine o_in_ c4 ?_
  intro H locs ls hP hS hl
  refine lv_iload_n hx hb d_Rd_readExponent_56 rfl (lv_at hl 0 rfl) ?_
  cases h
  exact o_ri C hP hS d_Rd_readExponent_57
set_option maxHeartbeats 4000000 in
set_option maxRecDepth 100000 in
theorem c_Rd_readShortEscape {E : (Nat → Prop) → State → Heap → Prop} {D : va_G} {ad kd sd vd xd : Nat → Nat} {ca : Nat → ClassId} (hE : o_EK E kd sd vd xd) (l : Launch) (x1 : Int32) (Rd : SRd) (Sj : SSJ) (T0 : STx) (T1 : STx) (Pg : SPg) (Pt : SPt) (Mk : SMk) (Lk : SLk) (Ck : SCk) (Jd : SJd) (Ld : SLd) (Pr : SPr) (rt : Nat) {r : Int32 × SRd} (h : m_Rd_readShortEscape x1 Rd = some r) : o_Cn E l D o_cls (o_tys ca) y_Rd_readShortEscape cc_Rd_readShortEscape rm_Rd_readShortEscape [.ref (ad 23), .int x1] (o_cw ad ca rt Sj T0 T1 Rd Pg Pt Mk Lk Ck Jd Ld Pr) (o_cw ad ca rt Sj T0 T1 r.2 Pg Pt Mk Lk Ck Jd Ld Pr) (some (.int r.1)) := by
  refine o_Cn_of (by decide) (Nat.le_of_ble_eq_true rfl) ?_
  intro p e s m below meth c A ls C hD hP hS hl
  have hDD : ∀ (rt : Nat) (Sj : SSJ) (T0 : STx) (T1 : STx) (Rd : SRd) (Pg : SPg) (Pt : SPt) (Mk : SMk) (Lk : SLk) (Ck : SCk) (Jd : SJd) (Ld : SLd) (Pr : SPr), va_D A (o_cw ad ca rt Sj T0 T1 Rd Pg Pt Mk Lk Ck Jd Ld Pr) := fun _ _ _ _ _ _ _ _ _ _ _ _ _ => o_D_map hD rfl
  have hl : lv_has ls 3 [(0, .ref (ad 23)), (1, .int x1)] := hl
  unfold m_Rd_readShortEscape at h
  have C0 := C
  obtain ⟨hx, hb, -, -, -, hown, hts, hK, -, -⟩ := C0
  refine lv_aload_n hx hb d_Rd_readShortEscape_0 rfl (lv_at hl 0 rfl) ?_
  refine o_get (v := .int (Rd_position Rd)) C in_Rd hP 23 cw_23 rfl 3 (by decide) k_1_97 rfl rfl d_Rd_readShortEscape_1 ?_
  refine lv_topi (fun x2_4 ex2_4 => ?_)
  replace h := o_nm_at ex2_4 h
  refine lv_istore_n (lv' := [(2, .int x2_4), (0, .ref (ad 23)), (1, .int x1)]) hx hb d_Rd_readShortEscape_4 rfl hl (by decide) rfl (fun ls hl => ?_)
  refine lv_aload_n hx hb d_Rd_readShortEscape_5 rfl (lv_at hl 1 rfl) ?_
  refine lv_dup hx hb d_Rd_readShortEscape_6 rfl ?_
  refine o_get (v := .int (Rd_position Rd)) C in_Rd hP 23 cw_23 rfl 3 (by decide) k_1_97 rfl rfl d_Rd_readShortEscape_7 ?_
  refine lv_iconst (v := (1:Int32)) hx hb d_Rd_readShortEscape_10 (by decide) ?_
  refine lv_iadd hx hb d_Rd_readShortEscape_11 ?_
  refine o_put (v := .int ((Rd_position Rd) + (1:Int32))) (ty := .int) (w1 := (o_cw ad ca rt Sj T0 T1 (Rd_mk (Rd_words Rd) (Rd_wordCount Rd) ((Rd_position Rd) + (1:Int32)) (Rd_limit Rd) (Rd_wrongPlace Rd)) Pg Pt Mk Lk Ck Jd Ld Pr)) C in_Rd t_Rd t_Rd_ok n_Rd hP (hDD _ _ _ _ _ _ _ _ _ _ _ _ _) hS 23 cw_23 rfl 3 (by decide) k_1_97 rfl rfl (by decide +kernel) rfl rfl (Nat.le_of_ble_eq_true rfl) rfl d_Rd_readShortEscape_12 (fun H locs hP hS => ?_)
  refine lv_iload_n hx hb d_Rd_readShortEscape_15 rfl (lv_at hl 2 rfl) ?_
  by_cases c1 : x1 = (34:Int32)
  · replace h := o_tt c1 h
    refine lv_lookup (off := 76) (tgt := 92) hx hb d_Rd_readShortEscape_16 (by decide) (by rw [c1]; rfl) (by decide) ?_
    refine lv_iload_n hx hb d_Rd_readShortEscape_92 rfl (lv_at hl 2 rfl) ?_
    cases h
    exact o_ri C hP hS d_Rd_readShortEscape_93
  replace h := o_ff c1 h
  by_cases c2 : x1 = (47:Int32)
  · replace h := o_tt c2 h
    refine lv_lookup (off := 76) (tgt := 92) hx hb d_Rd_readShortEscape_16 (by decide) (by rw [c2]; rfl) (by decide) ?_
    refine lv_iload_n hx hb d_Rd_readShortEscape_92 rfl (lv_at hl 2 rfl) ?_
    cases h
    exact o_ri C hP hS d_Rd_readShortEscape_93
  replace h := o_ff c2 h
  by_cases c3 : x1 = (92:Int32)
  · replace h := o_tt c3 h
    refine lv_lookup (off := 76) (tgt := 92) hx hb d_Rd_readShortEscape_16 (by decide) (by rw [c3]; rfl) (by decide) ?_
    refine lv_iload_n hx hb d_Rd_readShortEscape_92 rfl (lv_at hl 2 rfl) ?_
    cases h
    exact o_ri C hP hS d_Rd_readShortEscape_93
  replace h := o_ff c3 h
  by_cases c4 : x1 = (98:Int32)
  · replace h := o_tt c4 h
    refine lv_lookup (off := 78) (tgt := 94) hx hb d_Rd_readShortEscape_16 (by decide) (by rw [c4]; rfl) (by decide) ?_
    refine lv_bipush (v := (8:Int32)) hx hb d_Rd_readShortEscape_94 (by decide) ?_
    cases h
    exact o_ri (v := (8:Int32)) C hP hS d_Rd_readShortEscape_96
  replace h := o_ff c4 h
  by_cases c5 : x1 = (102:Int32)
  · replace h := o_tt c5 h
    refine lv_lookup (off := 81) (tgt := 97) hx hb d_Rd_readShortEscape_16 (by decide) (by rw [c5]; rfl) (by decide) ?_
    refine lv_bipush (v := (12:Int32)) hx hb d_Rd_readShortEscape_97 (by decide) ?_
    cases h
    exact o_ri (v := (12:Int32)) C hP hS d_Rd_readShortEscape_99
  replace h := o_ff c5 h
  by_cases c6 : x1 = (110:Int32)
  · replace h := o_tt c6 h
    refine lv_lookup (off := 84) (tgt := 100) hx hb d_Rd_readShortEscape_16 (by decide) (by rw [c6]; rfl) (by decide) ?_
    refine lv_bipush (v := (10:Int32)) hx hb d_Rd_readShortEscape_100 (by decide) ?_
    cases h
    exact o_ri (v := (10:Int32)) C hP hS d_Rd_readShortEscape_102
  replace h := o_ff c6 h
  by_cases c7 : x1 = (114:Int32)
  · replace h := o_tt c7 h
    refine lv_lookup (off := 87) (tgt := 103) hx hb d_Rd_readShortEscape_16 (by decide) (by rw [c7]; rfl) (by decide) ?_
    refine lv_bipush (v := (13:Int32)) hx hb d_Rd_readShortEscape_103 (by decide) ?_
    cases h
    exact o_ri (v := (13:Int32)) C hP hS d_Rd_readShortEscape_105
  replace h := o_ff c7 h
  by_cases c8 : x1 = (116:Int32)
  · replace h := o_tt c8 h
    refine lv_lookup (off := 90) (tgt := 106) hx hb d_Rd_readShortEscape_16 (by decide) (by rw [c8]; rfl) (by decide) ?_
    refine lv_bipush (v := (9:Int32)) hx hb d_Rd_readShortEscape_106 (by decide) ?_
    cases h
    exact o_ri (v := (9:Int32)) C hP hS d_Rd_readShortEscape_108
  replace h := o_ff c8 h
  refine lv_lookup (off := 93) (tgt := 109) hx hb d_Rd_readShortEscape_16 (by decide) ((lv_osw c1 (by decide)).trans ((lv_osw c2 (by decide)).trans ((lv_osw c3 (by decide)).trans ((lv_osw c4 (by decide)).trans ((lv_osw c5 (by decide)).trans ((lv_osw c6 (by decide)).trans ((lv_osw c7 (by decide)).trans ((lv_osw c8 (by decide)).trans rfl)))))))) (by decide) ?_
  refine lv_aload_n hx hb d_Rd_readShortEscape_109 rfl (lv_at hl 1 rfl) ?_
  refine lv_iload_n hx hb d_Rd_readShortEscape_110 rfl (lv_at hl 0 rfl) ?_
  obtain ⟨q1, hq1, h⟩ := o_bd_some h
  refine o_V (st1 := [.int q1.1]) (w1 := (o_cw ad ca rt Sj T0 T1 q1.2 Pg Pt Mk Lk Ck Jd Ld Pr)) hE.1 C (c_Rd_refuse hE l x2_4 (Rd_mk (Rd_words Rd) (Rd_wordCount Rd) ((Rd_position Rd) + (1:Int32)) (Rd_limit Rd) (Rd_wrongPlace Rd)) Sj T0 T1 Pg Pt Mk Lk Ck Jd Ld Pr rt hq1) hP (hDD _ _ _ _ _ _ _ _ _ _ _ _ _) hS hl.1 rfl cw_23 k_3_48 k_3_50 k_s_4 k_1_3 k_3_51 hv_Rd_refuse rfl rfl ⟨(Nat.le_of_ble_eq_true rfl), (Nat.le_of_ble_eq_true rfl)⟩ rfl (Nat.le_of_ble_eq_true rfl) ⟨Nat.zero_le _, Nat.zero_le _⟩ rfl d_Rd_readShortEscape_111 (fun H locs hP hS => ?_)
  refine lv_pop hx hb d_Rd_readShortEscape_114 rfl ?_
  refine lv_iconst (v := (-1:Int32)) hx hb d_Rd_readShortEscape_115 (by decide) ?_
  cases h
  exact o_ri (v := (-1:Int32)) C hP hS d_Rd_readShortEscape_116
set_option maxHeartbeats 4000000 in
set_option maxRecDepth 100000 in
theorem w_SJ_hexDigit_j37 {E : (Nat → Prop) → State → Heap → Prop} {p : Program} {l : Launch} {e : Env} {s : State} {m : MethodId} {args : Array Value} {below : List Frame} {meth : Method} {c : Code} {D : va_G} {ad kd sd vd xd : Nat → Nat} {ca : Nat → ClassId} {A : Nat → Prop} (hE : o_EK E kd sd vd xd) (C : o_Cx E p s m args meth c D o_cls (o_tys ca) "SchemaJudge" b_SJ_hexDigit (some .int) 1 cc_SJ_hexDigit A) (hDD : ∀ (rt : Nat) (Sj : SSJ) (T0 : STx) (T1 : STx) (Rd : SRd) (Pg : SPg) (Pt : SPt) (Mk : SMk) (Lk : SLk) (Ck : SCk) (Jd : SJd) (Ld : SLd) (Pr : SPr), va_D A (o_cw ad ca rt Sj T0 T1 Rd Pg Pt Mk Lk Ck Jd Ld Pr)) (x0 : Int32) (Sj : SSJ) (T0 : STx) (T1 : STx) (Rd : SRd) (Pg : SPg) (Pt : SPt) (Mk : SMk) (Lk : SLk) (Ck : SCk) (Jd : SJd) (Ld : SLd) (Pr : SPr) (rt : Nat) {r : Int32} (h : m_SJ_hexDigit_j37 x0 = some r) : o_At p l e rm_SJ_hexDigit s m args below meth c (MQ below (o_Qx D o_cls (some (.int r)) (o_cw ad ca rt Sj T0 T1 Rd Pg Pt Mk Lk Ck Jd Ld Pr) A) args s 0 0 A) o_cls D A 1 37 [] (o_cw ad ca rt Sj T0 T1 Rd Pg Pt Mk Lk Ck Jd Ld Pr) [(0, .int x0)] := by
  unfold m_SJ_hexDigit_j37 at h
  intro H locs ls hP hS hl
  have C0 := C
  obtain ⟨hx, hb, -, -, -, hown, hts, hK, -, -⟩ := C0
  refine lv_iload_n hx hb d_SJ_hexDigit_37 rfl (lv_at hl 0 rfl) ?_
  refine lv_bipush (v := (65:Int32)) hx hb d_SJ_hexDigit_38 (by decide) ?_
  refine lv_icmp_lt (tgt := 59) hx hb d_SJ_hexDigit_40 (by decide) (fun c3 => ?_) (fun c3 => ?_)
  · replace h := o_tt c3 h
    refine lv_iconst (v := (-1:Int32)) hx hb d_SJ_hexDigit_59 (by decide) ?_
    cases h
    exact o_ri (v := (-1:Int32)) C hP hS d_SJ_hexDigit_60
  · replace h := o_ff c3 h
    refine lv_iload_n hx hb d_SJ_hexDigit_43 rfl (lv_at hl 0 rfl) ?_
    refine lv_bipush (v := (70:Int32)) hx hb d_SJ_hexDigit_44 (by decide) ?_
    refine lv_icmp_gt (tgt := 59) hx hb d_SJ_hexDigit_46 (by decide) (fun c4 => ?_) (fun c4 => ?_)
    · replace h := o_tt c4 h
      refine lv_iconst (v := (-1:Int32)) hx hb d_SJ_hexDigit_59 (by decide) ?_
      cases h
      exact o_ri (v := (-1:Int32)) C hP hS d_SJ_hexDigit_60
    · replace h := o_ff c4 h
      refine lv_iload_n hx hb d_SJ_hexDigit_49 rfl (lv_at hl 0 rfl) ?_
      refine lv_bipush (v := (65:Int32)) hx hb d_SJ_hexDigit_50 (by decide) ?_
      refine lv_isub hx hb d_SJ_hexDigit_52 ?_
      refine lv_bipush (v := (10:Int32)) hx hb d_SJ_hexDigit_53 (by decide) ?_
      refine lv_iadd hx hb d_SJ_hexDigit_55 ?_
      refine lv_goto (tgt := 60) hx hb d_SJ_hexDigit_56 (by decide) ?_
      cases h
      exact o_ri (v := ((x0 - (65:Int32)) + (10:Int32))) C hP hS d_SJ_hexDigit_60
set_option maxHeartbeats 4000000 in
set_option maxRecDepth 100000 in
theorem w_SJ_hexDigit_j17 {E : (Nat → Prop) → State → Heap → Prop} {p : Program} {l : Launch} {e : Env} {s : State} {m : MethodId} {args : Array Value} {below : List Frame} {meth : Method} {c : Code} {D : va_G} {ad kd sd vd xd : Nat → Nat} {ca : Nat → ClassId} {A : Nat → Prop} (hE : o_EK E kd sd vd xd) (C : o_Cx E p s m args meth c D o_cls (o_tys ca) "SchemaJudge" b_SJ_hexDigit (some .int) 1 cc_SJ_hexDigit A) (hDD : ∀ (rt : Nat) (Sj : SSJ) (T0 : STx) (T1 : STx) (Rd : SRd) (Pg : SPg) (Pt : SPt) (Mk : SMk) (Lk : SLk) (Ck : SCk) (Jd : SJd) (Ld : SLd) (Pr : SPr), va_D A (o_cw ad ca rt Sj T0 T1 Rd Pg Pt Mk Lk Ck Jd Ld Pr)) (x0 : Int32) (Sj : SSJ) (T0 : STx) (T1 : STx) (Rd : SRd) (Pg : SPg) (Pt : SPt) (Mk : SMk) (Lk : SLk) (Ck : SCk) (Jd : SJd) (Ld : SLd) (Pr : SPr) (rt : Nat) {r : Int32} (h : m_SJ_hexDigit_j17 x0 = some r) : o_At p l e rm_SJ_hexDigit s m args below meth c (MQ below (o_Qx D o_cls (some (.int r)) (o_cw ad ca rt Sj T0 T1 Rd Pg Pt Mk Lk Ck Jd Ld Pr) A) args s 0 0 A) o_cls D A 1 17 [] (o_cw ad ca rt Sj T0 T1 Rd Pg Pt Mk Lk Ck Jd Ld Pr) [(0, .int x0)] := by
  unfold m_SJ_hexDigit_j17 at h
  intro H locs ls hP hS hl
  have C0 := C
  obtain ⟨hx, hb, -, -, -, hown, hts, hK, -, -⟩ := C0
  refine lv_iload_n hx hb d_SJ_hexDigit_17 rfl (lv_at hl 0 rfl) ?_
  refine lv_bipush (v := (97:Int32)) hx hb d_SJ_hexDigit_18 (by decide) ?_
  refine lv_icmp_lt (tgt := 37) hx hb d_SJ_hexDigit_20 (by decide) (fun c2 => ?_) (fun c2 => ?_)
  · replace h := o_tt c2 h
    exact w_SJ_hexDigit_j37 hE C hDD x0 Sj T0 T1 Rd Pg Pt Mk Lk Ck Jd Ld Pr rt h _ _ _ hP hS (lv_sub hl [0] rfl)
  · replace h := o_ff c2 h
    refine lv_iload_n hx hb d_SJ_hexDigit_23 rfl (lv_at hl 0 rfl) ?_
    refine lv_bipush (v := (102:Int32)) hx hb d_SJ_hexDigit_24 (by decide) ?_
    refine lv_icmp_gt (tgt := 37) hx hb d_SJ_hexDigit_26 (by decide) (fun c5 => ?_) (fun c5 => ?_)
    · replace h := o_tt c5 h
      exact w_SJ_hexDigit_j37 hE C hDD x0 Sj T0 T1 Rd Pg Pt Mk Lk Ck Jd Ld Pr rt h _ _ _ hP hS (lv_sub hl [0] rfl)
    · replace h := o_ff c5 h
      refine lv_iload_n hx hb d_SJ_hexDigit_29 rfl (lv_at hl 0 rfl) ?_
      refine lv_bipush (v := (97:Int32)) hx hb d_SJ_hexDigit_30 (by decide) ?_
      refine lv_isub hx hb d_SJ_hexDigit_32 ?_
      refine lv_bipush (v := (10:Int32)) hx hb d_SJ_hexDigit_33 (by decide) ?_
      refine lv_iadd hx hb d_SJ_hexDigit_35 ?_
      cases h
      exact o_ri (v := ((x0 - (97:Int32)) + (10:Int32))) C hP hS d_SJ_hexDigit_36
set_option maxHeartbeats 4000000 in
set_option maxRecDepth 100000 in
theorem c_SJ_hexDigit {E : (Nat → Prop) → State → Heap → Prop} {D : va_G} {ad kd sd vd xd : Nat → Nat} {ca : Nat → ClassId} (hE : o_EK E kd sd vd xd) (l : Launch) (x0 : Int32) (Sj : SSJ) (T0 : STx) (T1 : STx) (Rd : SRd) (Pg : SPg) (Pt : SPt) (Mk : SMk) (Lk : SLk) (Ck : SCk) (Jd : SJd) (Ld : SLd) (Pr : SPr) (rt : Nat) {r : Int32} (h : m_SJ_hexDigit x0 = some r) : o_Cn E l D o_cls (o_tys ca) y_SJ_hexDigit cc_SJ_hexDigit rm_SJ_hexDigit [.int x0] (o_cw ad ca rt Sj T0 T1 Rd Pg Pt Mk Lk Ck Jd Ld Pr) (o_cw ad ca rt Sj T0 T1 Rd Pg Pt Mk Lk Ck Jd Ld Pr) (some (.int r)) := by
  refine o_Cn_of (by decide) (Nat.le_of_ble_eq_true rfl) ?_
  intro p e s m below meth c A ls C hD hP hS hl
  have hDD : ∀ (rt : Nat) (Sj : SSJ) (T0 : STx) (T1 : STx) (Rd : SRd) (Pg : SPg) (Pt : SPt) (Mk : SMk) (Lk : SLk) (Ck : SCk) (Jd : SJd) (Ld : SLd) (Pr : SPr), va_D A (o_cw ad ca rt Sj T0 T1 Rd Pg Pt Mk Lk Ck Jd Ld Pr) := fun _ _ _ _ _ _ _ _ _ _ _ _ _ => o_D_map hD rfl
  have hl : lv_has ls 1 [(0, .int x0)] := hl
  unfold m_SJ_hexDigit at h
  have C0 := C
  obtain ⟨hx, hb, -, -, -, hown, hts, hK, -, -⟩ := C0
  refine lv_iload_n hx hb d_SJ_hexDigit_0 rfl (lv_at hl 0 rfl) ?_
  refine lv_bipush (v := (48:Int32)) hx hb d_SJ_hexDigit_1 (by decide) ?_
  refine lv_icmp_lt (tgt := 17) hx hb d_SJ_hexDigit_3 (by decide) (fun c1 => ?_) (fun c1 => ?_)
  · replace h := o_tt c1 h
    exact w_SJ_hexDigit_j17 hE C hDD x0 Sj T0 T1 Rd Pg Pt Mk Lk Ck Jd Ld Pr rt h _ _ _ hP hS (lv_sub hl [0] rfl)
  · replace h := o_ff c1 h
    refine lv_iload_n hx hb d_SJ_hexDigit_6 rfl (lv_at hl 0 rfl) ?_
    refine lv_bipush (v := (57:Int32)) hx hb d_SJ_hexDigit_7 (by decide) ?_
    refine lv_icmp_gt (tgt := 17) hx hb d_SJ_hexDigit_9 (by decide) (fun c6 => ?_) (fun c6 => ?_)
    · replace h := o_tt c6 h
      exact w_SJ_hexDigit_j17 hE C hDD x0 Sj T0 T1 Rd Pg Pt Mk Lk Ck Jd Ld Pr rt h _ _ _ hP hS (lv_sub hl [0] rfl)
    · replace h := o_ff c6 h
      refine lv_iload_n hx hb d_SJ_hexDigit_12 rfl (lv_at hl 0 rfl) ?_
      refine lv_bipush (v := (48:Int32)) hx hb d_SJ_hexDigit_13 (by decide) ?_
      refine lv_isub hx hb d_SJ_hexDigit_15 ?_
      cases h
      exact o_ri (v := (x0 - (48:Int32))) C hP hS d_SJ_hexDigit_16
set_option maxHeartbeats 4000000 in
set_option maxRecDepth 100000 in
theorem w_Rd_readHex_b4 {E : (Nat → Prop) → State → Heap → Prop} {p : Program} {l : Launch} {e : Env} {s : State} {m : MethodId} {args : Array Value} {below : List Frame} {meth : Method} {c : Code} {D : va_G} {ad kd sd vd xd : Nat → Nat} {ca : Nat → ClassId} {A : Nat → Prop} {Q : State → Prop} (hE : o_EK E kd sd vd xd) (C : o_Cx E p s m args meth c D o_cls (o_tys ca) "SchemaJudge$Reader" b_Rd_readHex (some .int) 4 cc_Rd_readHex A) (hDD : ∀ (rt : Nat) (Sj : SSJ) (T0 : STx) (T1 : STx) (Rd : SRd) (Pg : SPg) (Pt : SPt) (Mk : SMk) (Lk : SLk) (Ck : SCk) (Jd : SJd) (Ld : SLd) (Pr : SPr), va_D A (o_cw ad ca rt Sj T0 T1 Rd Pg Pt Mk Lk Ck Jd Ld Pr)) (n : Nat) (u4_Sj : SSJ) (u4_T0 : STx) (u4_T1 : STx) (u4_Pg : SPg) (u4_Pt : SPt) (u4_Mk : SMk) (u4_Lk : SLk) (u4_Ck : SCk) (u4_Jd : SJd) (u4_Ld : SLd) (u4_Pr : SPr) (u4_rt : Nat) (z : Int32 × Int32 × SRd) (q : Nat × Int32 × Int32 × SRd) (h : m_Rd_readHex_b4 n z = some q) (h0 : q.1 = 0 → o_At p l e rm_Rd_readHex s m args below meth c Q o_cls D A 4 4 [] (o_cw ad ca u4_rt u4_Sj u4_T0 u4_T1 q.2.2.2 u4_Pg u4_Pt u4_Mk u4_Lk u4_Ck u4_Jd u4_Ld u4_Pr) [(0, .ref (ad 23)), (1, .int q.2.1), (2, .int q.2.2.1)]) (h1 : q.1 ≠ 0 → (if q.1 = 1 then o_At p l e rm_Rd_readHex s m args below meth c Q o_cls D A 4 22 [] (o_cw ad ca u4_rt u4_Sj u4_T0 u4_T1 q.2.2.2 u4_Pg u4_Pt u4_Mk u4_Lk u4_Ck u4_Jd u4_Ld u4_Pr) [(0, .ref (ad 23))] else o_At p l e rm_Rd_readHex s m args below meth c Q o_cls D A 4 56 [] (o_cw ad ca u4_rt u4_Sj u4_T0 u4_T1 q.2.2.2 u4_Pg u4_Pt u4_Mk u4_Lk u4_Ck u4_Jd u4_Ld u4_Pr) [(1, .int q.2.1)])) : o_At p l e rm_Rd_readHex s m args below meth c Q o_cls D A 4 4 [] (o_cw ad ca u4_rt u4_Sj u4_T0 u4_T1 z.2.2 u4_Pg u4_Pt u4_Mk u4_Lk u4_Ck u4_Jd u4_Ld u4_Pr) [(0, .ref (ad 23)), (1, .int z.1), (2, .int z.2.1)] := by
  unfold m_Rd_readHex_b4 at h
  intro H locs ls hP hS hl
  have C0 := C
  obtain ⟨hx, hb, -, -, -, hown, hts, hK, -, -⟩ := C0
  refine lv_iload_n hx hb d_Rd_readHex_4 rfl (lv_at hl 2 rfl) ?_
  refine lv_iconst (v := (4:Int32)) hx hb d_Rd_readHex_5 (by decide) ?_
  refine lv_icmp_ge (tgt := 56) hx hb d_Rd_readHex_6 (by decide) (fun c1 => ?_) (fun c1 => ?_)
  · replace h := o_tt c1 h
    cases h
    exact h1 (Nat.succ_ne_zero 1) _ _ _ hP hS (lv_sub hl [1] rfl)
  · replace h := o_ff c1 h
    refine lv_aload_n hx hb d_Rd_readHex_9 rfl (lv_at hl 0 rfl) ?_
    obtain ⟨q1, hq1, h⟩ := o_bd_some h
    refine o_V (st1 := [.int q1]) (w1 := (o_cw ad ca u4_rt u4_Sj u4_T0 u4_T1 z.2.2 u4_Pg u4_Pt u4_Mk u4_Lk u4_Ck u4_Jd u4_Ld u4_Pr)) hE.1 C (c_Rd_peek hE l z.2.2 u4_Sj u4_T0 u4_T1 u4_Pg u4_Pt u4_Mk u4_Lk u4_Ck u4_Jd u4_Ld u4_Pr u4_rt hq1) hP (hDD _ _ _ _ _ _ _ _ _ _ _ _ _) hS hl.1 rfl cw_23 k_3_38 k_3_40 k_s_3 k_1_3 k_3_41 hv_Rd_peek rfl rfl ⟨(Nat.le_of_ble_eq_true rfl), (Nat.le_of_ble_eq_true rfl)⟩ rfl (Nat.le_of_ble_eq_true rfl) ⟨Nat.zero_le _, Nat.zero_le _⟩ rfl d_Rd_readHex_10 (fun H locs hP hS => ?_)
    obtain ⟨q2, hq2, h⟩ := o_bd_some h
    refine o_SN (st1 := [.int q2]) (w1 := (o_cw ad ca u4_rt u4_Sj u4_T0 u4_T1 z.2.2 u4_Pg u4_Pt u4_Mk u4_Lk u4_Ck u4_Jd u4_Ld u4_Pr)) hE.1 C (c_SJ_hexDigit hE l q1 u4_Sj u4_T0 u4_T1 z.2.2 u4_Pg u4_Pt u4_Mk u4_Lk u4_Ck u4_Jd u4_Ld u4_Pr u4_rt hq2) hP (hDD _ _ _ _ _ _ _ _ _ _ _ _ _) hS hl.1 (hE.2.1 _ _ _ C.2.2.2.2.2.2.2.2.2 _ nw_5) k_3_152 k_1_1 k_3_153 hs_SJ_hexDigit rfl rfl ⟨(Nat.le_of_ble_eq_true rfl), (Nat.le_of_ble_eq_true rfl)⟩ rfl (Nat.le_of_ble_eq_true rfl) ⟨Nat.zero_le _, Nat.zero_le _⟩ rfl d_Rd_readHex_13 (fun H locs hP hS => ?_)
    refine lv_istore_n (lv' := [(3, .int q2), (0, .ref (ad 23)), (1, .int z.1), (2, .int z.2.1)]) hx hb d_Rd_readHex_16 rfl hl (by decide) rfl (fun ls hl => ?_)
    refine lv_iload_n hx hb d_Rd_readHex_17 rfl (lv_at hl 0 rfl) ?_
    refine lv_iconst (v := (-1:Int32)) hx hb d_Rd_readHex_18 (by decide) ?_
    refine lv_icmp_ne (tgt := 33) hx hb d_Rd_readHex_19 (by decide) (fun c2 => ?_) (fun c2 => ?_)
    · replace h := o_ff c2 h
      refine lv_iload_n hx hb d_Rd_readHex_33 rfl (lv_at hl 2 rfl) ?_
      refine lv_bipush (v := (16:Int32)) hx hb d_Rd_readHex_34 (by decide) ?_
      refine lv_imul hx hb d_Rd_readHex_36 ?_
      refine lv_iload_n hx hb d_Rd_readHex_37 rfl (lv_at hl 0 rfl) ?_
      refine lv_iadd hx hb d_Rd_readHex_38 ?_
      refine lv_topi (fun x1_39 ex1_39 => ?_)
      replace h := o_nm_at ex1_39 h
      refine lv_istore_n (lv' := [(1, .int x1_39), (3, .int q2), (0, .ref (ad 23)), (2, .int z.2.1)]) hx hb d_Rd_readHex_39 rfl hl (by decide) rfl (fun ls hl => ?_)
      refine lv_aload_n hx hb d_Rd_readHex_40 rfl (lv_at hl 2 rfl) ?_
      refine lv_dup hx hb d_Rd_readHex_41 rfl ?_
      refine o_get (v := .int (Rd_position z.2.2)) C in_Rd hP 23 cw_23 rfl 3 (by decide) k_1_97 rfl rfl d_Rd_readHex_42 ?_
      refine lv_iconst (v := (1:Int32)) hx hb d_Rd_readHex_45 (by decide) ?_
      refine lv_iadd hx hb d_Rd_readHex_46 ?_
      refine o_put (v := .int ((Rd_position z.2.2) + (1:Int32))) (ty := .int) (w1 := (o_cw ad ca u4_rt u4_Sj u4_T0 u4_T1 (Rd_mk (Rd_words z.2.2) (Rd_wordCount z.2.2) ((Rd_position z.2.2) + (1:Int32)) (Rd_limit z.2.2) (Rd_wrongPlace z.2.2)) u4_Pg u4_Pt u4_Mk u4_Lk u4_Ck u4_Jd u4_Ld u4_Pr)) C in_Rd t_Rd t_Rd_ok n_Rd hP (hDD _ _ _ _ _ _ _ _ _ _ _ _ _) hS 23 cw_23 rfl 3 (by decide) k_1_97 rfl rfl (by decide +kernel) rfl rfl (Nat.le_of_ble_eq_true rfl) rfl d_Rd_readHex_47 (fun H locs hP hS => ?_)
      obtain ⟨x2_50, ex2_50⟩ : ∃ y : Int32, y = z.2.1 + (1:Int32) := ⟨_, rfl⟩
      replace h := o_nm_at ex2_50 h
      refine lv_iinc (v := x2_50) (lv' := [(2, .int x2_50), (1, .int x1_39), (3, .int q2), (0, .ref (ad 23))]) hx hb d_Rd_readHex_50 hl (k := 3) rfl (by rw [ex2_50]; rfl) (by decide) rfl (fun ls hl => ?_)
      refine lv_goto (tgt := 4) hx hb d_Rd_readHex_53 (by decide) ?_
      cases h
      exact h0 rfl _ _ _ hP hS (lv_sub hl [3, 1, 0] rfl)
    · replace h := o_tt c2 h
      cases h
      exact h1 (Nat.succ_ne_zero 0) _ _ _ hP hS (lv_sub hl [1] rfl)
set_option maxHeartbeats 4000000 in
set_option maxRecDepth 100000 in
theorem c_Rd_readHex {E : (Nat → Prop) → State → Heap → Prop} {D : va_G} {ad kd sd vd xd : Nat → Nat} {ca : Nat → ClassId} (hE : o_EK E kd sd vd xd) (l : Launch) (n : Nat)  (Rd : SRd) (Sj : SSJ) (T0 : STx) (T1 : STx) (Pg : SPg) (Pt : SPt) (Mk : SMk) (Lk : SLk) (Ck : SCk) (Jd : SJd) (Ld : SLd) (Pr : SPr) (rt : Nat) {r : Int32 × SRd} (h : m_Rd_readHex n Rd = some r) : o_Cn E l D o_cls (o_tys ca) y_Rd_readHex cc_Rd_readHex rm_Rd_readHex [.ref (ad 23)] (o_cw ad ca rt Sj T0 T1 Rd Pg Pt Mk Lk Ck Jd Ld Pr) (o_cw ad ca rt Sj T0 T1 r.2 Pg Pt Mk Lk Ck Jd Ld Pr) (some (.int r.1)) := by
  refine o_Cn_of (by decide) (Nat.le_of_ble_eq_true rfl) ?_
  intro p e s m below meth c A ls C hD hP hS hl
  have hDD : ∀ (rt : Nat) (Sj : SSJ) (T0 : STx) (T1 : STx) (Rd : SRd) (Pg : SPg) (Pt : SPt) (Mk : SMk) (Lk : SLk) (Ck : SCk) (Jd : SJd) (Ld : SLd) (Pr : SPr), va_D A (o_cw ad ca rt Sj T0 T1 Rd Pg Pt Mk Lk Ck Jd Ld Pr) := fun _ _ _ _ _ _ _ _ _ _ _ _ _ => o_D_map hD rfl
  have hl : lv_has ls 4 [(0, .ref (ad 23))] := hl
  unfold m_Rd_readHex at h
  have C0 := C
  obtain ⟨hx, hb, -, -, -, hown, hts, hK, -, -⟩ := C0
  refine lv_iconst (v := (0:Int32)) hx hb d_Rd_readHex_0 (by decide) ?_
  refine lv_istore_n (lv' := [(1, .int (0:Int32)), (0, .ref (ad 23))]) hx hb d_Rd_readHex_1 rfl hl (by decide) rfl (fun ls hl => ?_)
  refine lv_iconst (v := (0:Int32)) hx hb d_Rd_readHex_2 (by decide) ?_
  refine lv_istore_n (lv' := [(2, .int (0:Int32)), (1, .int (0:Int32)), (0, .ref (ad 23))]) hx hb d_Rd_readHex_3 rfl hl (by decide) rfl (fun ls hl => ?_)
  obtain ⟨q3, hq3, h⟩ := o_bd_some h
  refine o_sim2 (AH := fun zz => o_At p l e rm_Rd_readHex s m _ below meth c _ o_cls D A 4 4 [] (o_cw ad ca rt Sj T0 T1 zz.2.2 Pg Pt Mk Lk Ck Jd Ld Pr) [(0, .ref (ad 23)), (1, .int zz.1), (2, .int zz.2.1)]) (AX := fun qq => if qq.1 = 1 then o_At p l e rm_Rd_readHex s m _ below meth c _ o_cls D A 4 22 [] (o_cw ad ca rt Sj T0 T1 qq.2.2.2 Pg Pt Mk Lk Ck Jd Ld Pr) [(0, .ref (ad 23))] else o_At p l e rm_Rd_readHex s m _ below meth c _ o_cls D A 4 56 [] (o_cw ad ca rt Sj T0 T1 qq.2.2.2 Pg Pt Mk Lk Ck Jd Ld Pr) [(1, .int qq.2.1)]) (fun zz qq h h0 h1 => w_Rd_readHex_b4 hE C hDD n Sj T0 T1 Pg Pt Mk Lk Ck Jd Ld Pr rt zz qq h h0 h1) n _ q3 hq3 ?_ _ _ _ hP hS (lv_sub hl [2, 1, 0] rfl)
  by_cases c3 : q3.1 = 1
  · replace h := o_tt c3 h
    refine o_ip c3 ?_
    intro H locs ls hP hS hl
    refine lv_aload_n hx hb d_Rd_readHex_22 rfl (lv_at hl 0 rfl) ?_
    refine lv_aload_n hx hb d_Rd_readHex_23 rfl (lv_at hl 0 rfl) ?_
    refine o_get (v := .int (Rd_position q3.2.2.2)) C in_Rd hP 23 cw_23 rfl 3 (by decide) k_1_97 rfl rfl d_Rd_readHex_24 ?_
    obtain ⟨q4, hq4, h⟩ := o_bd_some h
    refine o_V (st1 := [.int q4.1]) (w1 := (o_cw ad ca rt Sj T0 T1 q4.2 Pg Pt Mk Lk Ck Jd Ld Pr)) hE.1 C (c_Rd_refuse hE l (Rd_position q3.2.2.2) q3.2.2.2 Sj T0 T1 Pg Pt Mk Lk Ck Jd Ld Pr rt hq4) hP (hDD _ _ _ _ _ _ _ _ _ _ _ _ _) hS hl.1 rfl cw_23 k_3_48 k_3_50 k_s_4 k_1_3 k_3_51 hv_Rd_refuse rfl rfl ⟨(Nat.le_of_ble_eq_true rfl), (Nat.le_of_ble_eq_true rfl)⟩ rfl (Nat.le_of_ble_eq_true rfl) ⟨Nat.zero_le _, Nat.zero_le _⟩ rfl d_Rd_readHex_27 (fun H locs hP hS => ?_)
    refine lv_pop hx hb d_Rd_readHex_30 rfl ?_
    refine lv_iconst (v := (-1:Int32)) hx hb d_Rd_readHex_31 (by decide) ?_
    cases h
    exact o_ri (v := (-1:Int32)) C hP hS d_Rd_readHex_32
  replace h := o_ff c3 h
  refine o_in_ c3 ?_
  intro H locs ls hP hS hl
  refine lv_iload_n hx hb d_Rd_readHex_56 rfl (lv_at hl 0 rfl) ?_
  cases h
  exact o_ri C hP hS d_Rd_readHex_57
set_option maxHeartbeats 4000000 in
set_option maxRecDepth 100000 in
theorem c_SJ_isSurrogate {E : (Nat → Prop) → State → Heap → Prop} {D : va_G} {ad kd sd vd xd : Nat → Nat} {ca : Nat → ClassId} (hE : o_EK E kd sd vd xd) (l : Launch) (x0 : Int32) (Sj : SSJ) (T0 : STx) (T1 : STx) (Rd : SRd) (Pg : SPg) (Pt : SPt) (Mk : SMk) (Lk : SLk) (Ck : SCk) (Jd : SJd) (Ld : SLd) (Pr : SPr) (rt : Nat) {r : Int32} (h : m_SJ_isSurrogate x0 = some r) : o_Cn E l D o_cls (o_tys ca) y_SJ_isSurrogate cc_SJ_isSurrogate rm_SJ_isSurrogate [.int x0] (o_cw ad ca rt Sj T0 T1 Rd Pg Pt Mk Lk Ck Jd Ld Pr) (o_cw ad ca rt Sj T0 T1 Rd Pg Pt Mk Lk Ck Jd Ld Pr) (some (.int r)) := by
  refine o_Cn_of (by decide) (Nat.le_of_ble_eq_true rfl) ?_
  intro p e s m below meth c A ls C hD hP hS hl
  have hDD : ∀ (rt : Nat) (Sj : SSJ) (T0 : STx) (T1 : STx) (Rd : SRd) (Pg : SPg) (Pt : SPt) (Mk : SMk) (Lk : SLk) (Ck : SCk) (Jd : SJd) (Ld : SLd) (Pr : SPr), va_D A (o_cw ad ca rt Sj T0 T1 Rd Pg Pt Mk Lk Ck Jd Ld Pr) := fun _ _ _ _ _ _ _ _ _ _ _ _ _ => o_D_map hD rfl
  have hl : lv_has ls 1 [(0, .int x0)] := hl
  unfold m_SJ_isSurrogate at h
  have C0 := C
  obtain ⟨hx, hb, -, -, -, hown, hts, hK, -, -⟩ := C0
  refine lv_iload_n hx hb d_SJ_isSurrogate_0 rfl (lv_at hl 0 rfl) ?_
  refine lv_ldc (v := (55296:Int32)) hx hb hown (hts _ k_3_157) d_SJ_isSurrogate_1 ?_
  refine lv_icmp_lt (tgt := 16) hx hb d_SJ_isSurrogate_3 (by decide) (fun c1 => ?_) (fun c1 => ?_)
  · replace h := o_tt c1 h
    refine lv_iconst (v := (0:Int32)) hx hb d_SJ_isSurrogate_16 (by decide) ?_
    cases h
    exact o_rz (v := (0:Int32)) C o_nar0 hP hS d_SJ_isSurrogate_17
  · replace h := o_ff c1 h
    refine lv_iload_n hx hb d_SJ_isSurrogate_6 rfl (lv_at hl 0 rfl) ?_
    refine lv_ldc (v := (57343:Int32)) hx hb hown (hts _ k_3_158) d_SJ_isSurrogate_7 ?_
    refine lv_icmp_gt (tgt := 16) hx hb d_SJ_isSurrogate_9 (by decide) (fun c2 => ?_) (fun c2 => ?_)
    · replace h := o_tt c2 h
      refine lv_iconst (v := (0:Int32)) hx hb d_SJ_isSurrogate_16 (by decide) ?_
      cases h
      exact o_rz (v := (0:Int32)) C o_nar0 hP hS d_SJ_isSurrogate_17
    · replace h := o_ff c2 h
      refine lv_iconst (v := (1:Int32)) hx hb d_SJ_isSurrogate_12 (by decide) ?_
      refine lv_goto (tgt := 17) hx hb d_SJ_isSurrogate_13 (by decide) ?_
      cases h
      exact o_rz (v := (1:Int32)) C o_nar1 hP hS d_SJ_isSurrogate_17
set_option maxHeartbeats 4000000 in
set_option maxRecDepth 100000 in
theorem w_Rd_readEscape_j123 {E : (Nat → Prop) → State → Heap → Prop} {p : Program} {l : Launch} {e : Env} {s : State} {m : MethodId} {args : Array Value} {below : List Frame} {meth : Method} {c : Code} {D : va_G} {ad kd sd vd xd : Nat → Nat} {ca : Nat → ClassId} {A : Nat → Prop} (hE : o_EK E kd sd vd xd) (C : o_Cx E p s m args meth c D o_cls (o_tys ca) "SchemaJudge$Reader" b_Rd_readEscape (some .int) 5 cc_Rd_readEscape A) (hDD : ∀ (rt : Nat) (Sj : SSJ) (T0 : STx) (T1 : STx) (Rd : SRd) (Pg : SPg) (Pt : SPt) (Mk : SMk) (Lk : SLk) (Ck : SCk) (Jd : SJd) (Ld : SLd) (Pr : SPr), va_D A (o_cw ad ca rt Sj T0 T1 Rd Pg Pt Mk Lk Ck Jd Ld Pr)) (n : Nat) (x1 : Int32) (Rd : SRd) (Sj : SSJ) (T0 : STx) (T1 : STx) (Pg : SPg) (Pt : SPt) (Mk : SMk) (Lk : SLk) (Ck : SCk) (Jd : SJd) (Ld : SLd) (Pr : SPr) (rt : Nat) {r : Int32 × SRd} (h : m_Rd_readEscape_j123 n x1 Rd = some r) : o_At p l e rm_Rd_readEscape s m args below meth c (MQ below (o_Qx D o_cls (some (.int r.1)) (o_cw ad ca rt Sj T0 T1 r.2 Pg Pt Mk Lk Ck Jd Ld Pr) A) args s 0 0 A) o_cls D A 5 123 [] (o_cw ad ca rt Sj T0 T1 Rd Pg Pt Mk Lk Ck Jd Ld Pr) [(0, .ref (ad 23)), (1, .int x1)] := by
  unfold m_Rd_readEscape_j123 at h
  intro H locs ls hP hS hl
  have C0 := C
  obtain ⟨hx, hb, -, -, -, hown, hts, hK, -, -⟩ := C0
  refine lv_aload_n hx hb d_Rd_readEscape_123 rfl (lv_at hl 0 rfl) ?_
  refine lv_iload_n hx hb d_Rd_readEscape_124 rfl (lv_at hl 1 rfl) ?_
  obtain ⟨q4, hq4, h⟩ := o_bd_some h
  refine o_V (st1 := [.int q4.1]) (w1 := (o_cw ad ca rt Sj T0 T1 q4.2 Pg Pt Mk Lk Ck Jd Ld Pr)) hE.1 C (c_Rd_refuse hE l x1 Rd Sj T0 T1 Pg Pt Mk Lk Ck Jd Ld Pr rt hq4) hP (hDD _ _ _ _ _ _ _ _ _ _ _ _ _) hS hl.1 rfl cw_23 k_3_48 k_3_50 k_s_4 k_1_3 k_3_51 hv_Rd_refuse rfl rfl ⟨(Nat.le_of_ble_eq_true rfl), (Nat.le_of_ble_eq_true rfl)⟩ rfl (Nat.le_of_ble_eq_true rfl) ⟨Nat.zero_le _, Nat.zero_le _⟩ rfl d_Rd_readEscape_125 (fun H locs hP hS => ?_)
  refine lv_pop hx hb d_Rd_readEscape_128 rfl ?_
  refine lv_iconst (v := (-1:Int32)) hx hb d_Rd_readEscape_129 (by decide) ?_
  cases h
  exact o_ri (v := (-1:Int32)) C hP hS d_Rd_readEscape_130
set_option maxHeartbeats 4000000 in
set_option maxRecDepth 100000 in
theorem w_Rd_readEscape_j109 {E : (Nat → Prop) → State → Heap → Prop} {p : Program} {l : Launch} {e : Env} {s : State} {m : MethodId} {args : Array Value} {below : List Frame} {meth : Method} {c : Code} {D : va_G} {ad kd sd vd xd : Nat → Nat} {ca : Nat → ClassId} {A : Nat → Prop} (hE : o_EK E kd sd vd xd) (C : o_Cx E p s m args meth c D o_cls (o_tys ca) "SchemaJudge$Reader" b_Rd_readEscape (some .int) 5 cc_Rd_readEscape A) (hDD : ∀ (rt : Nat) (Sj : SSJ) (T0 : STx) (T1 : STx) (Rd : SRd) (Pg : SPg) (Pt : SPt) (Mk : SMk) (Lk : SLk) (Ck : SCk) (Jd : SJd) (Ld : SLd) (Pr : SPr), va_D A (o_cw ad ca rt Sj T0 T1 Rd Pg Pt Mk Lk Ck Jd Ld Pr)) (n : Nat) (x1 : Int32) (x3 : Int32) (x4 : Int32) (Rd : SRd) (Sj : SSJ) (T0 : STx) (T1 : STx) (Pg : SPg) (Pt : SPt) (Mk : SMk) (Lk : SLk) (Ck : SCk) (Jd : SJd) (Ld : SLd) (Pr : SPr) (rt : Nat) {r : Int32 × SRd} (h : m_Rd_readEscape_j109 n x1 x3 x4 Rd = some r) : o_At p l e rm_Rd_readEscape s m args below meth c (MQ below (o_Qx D o_cls (some (.int r.1)) (o_cw ad ca rt Sj T0 T1 r.2 Pg Pt Mk Lk Ck Jd Ld Pr) A) args s 0 0 A) o_cls D A 5 109 [] (o_cw ad ca rt Sj T0 T1 Rd Pg Pt Mk Lk Ck Jd Ld Pr) [(0, .ref (ad 23)), (1, .int x1), (3, .int x3), (4, .int x4)] := by
  unfold m_Rd_readEscape_j109 at h
  intro H locs ls hP hS hl
  have C0 := C
  obtain ⟨hx, hb, -, -, -, hown, hts, hK, -, -⟩ := C0
  refine lv_iload hx hb d_Rd_readEscape_109 (lv_at hl 3 rfl) ?_
  refine lv_ldc (v := (56320:Int32)) hx hb hown (hts _ k_3_159) d_Rd_readEscape_111 ?_
  refine lv_icmp_lt (tgt := 123) hx hb d_Rd_readEscape_113 (by decide) (fun c4 => ?_) (fun c4 => ?_)
  · replace h := o_tt c4 h
    exact w_Rd_readEscape_j123 hE C hDD n x1 Rd Sj T0 T1 Pg Pt Mk Lk Ck Jd Ld Pr rt h _ _ _ hP hS (lv_sub hl [0, 1] rfl)
  · replace h := o_ff c4 h
    refine lv_iload hx hb d_Rd_readEscape_116 (lv_at hl 3 rfl) ?_
    refine lv_ldc (v := (57343:Int32)) hx hb hown (hts _ k_3_160) d_Rd_readEscape_118 ?_
    refine lv_icmp_le (tgt := 131) hx hb d_Rd_readEscape_120 (by decide) (fun c5 => ?_) (fun c5 => ?_)
    · replace h := o_tt c5 h
      refine lv_ldc (v := (65536:Int32)) hx hb hown (hts _ k_3_161) d_Rd_readEscape_131 ?_
      refine lv_iload_n hx hb d_Rd_readEscape_133 rfl (lv_at hl 2 rfl) ?_
      refine lv_ldc (v := (55296:Int32)) hx hb hown (hts _ k_3_162) d_Rd_readEscape_134 ?_
      refine lv_isub hx hb d_Rd_readEscape_136 ?_
      refine lv_bipush (v := (10:Int32)) hx hb d_Rd_readEscape_137 (by decide) ?_
      refine lv_ishl hx hb d_Rd_readEscape_139 ?_
      refine lv_iadd hx hb d_Rd_readEscape_140 ?_
      refine lv_iload hx hb d_Rd_readEscape_141 (lv_at hl 3 rfl) ?_
      refine lv_ldc (v := (56320:Int32)) hx hb hown (hts _ k_3_159) d_Rd_readEscape_143 ?_
      refine lv_isub hx hb d_Rd_readEscape_145 ?_
      refine lv_iadd hx hb d_Rd_readEscape_146 ?_
      cases h
      exact o_ri (v := (((65536:Int32) + ((x3 - (55296:Int32)) <<< ((10:Int32) &&& 31))) + (x4 - (56320:Int32)))) C hP hS d_Rd_readEscape_147
    · replace h := o_ff c5 h
      exact w_Rd_readEscape_j123 hE C hDD n x1 Rd Sj T0 T1 Pg Pt Mk Lk Ck Jd Ld Pr rt h _ _ _ hP hS (lv_sub hl [0, 1] rfl)
set_option maxHeartbeats 4000000 in
set_option maxRecDepth 100000 in
theorem c_Rd_readEscape {E : (Nat → Prop) → State → Heap → Prop} {D : va_G} {ad kd sd vd xd : Nat → Nat} {ca : Nat → ClassId} (hE : o_EK E kd sd vd xd) (l : Launch) (n : Nat)  (Rd : SRd) (Sj : SSJ) (T0 : STx) (T1 : STx) (Pg : SPg) (Pt : SPt) (Mk : SMk) (Lk : SLk) (Ck : SCk) (Jd : SJd) (Ld : SLd) (Pr : SPr) (rt : Nat) {r : Int32 × SRd} (h : m_Rd_readEscape n Rd = some r) : o_Cn E l D o_cls (o_tys ca) y_Rd_readEscape cc_Rd_readEscape rm_Rd_readEscape [.ref (ad 23)] (o_cw ad ca rt Sj T0 T1 Rd Pg Pt Mk Lk Ck Jd Ld Pr) (o_cw ad ca rt Sj T0 T1 r.2 Pg Pt Mk Lk Ck Jd Ld Pr) (some (.int r.1)) := by
  refine o_Cn_of (by decide) (Nat.le_of_ble_eq_true rfl) ?_
  intro p e s m below meth c A ls C hD hP hS hl
  have hDD : ∀ (rt : Nat) (Sj : SSJ) (T0 : STx) (T1 : STx) (Rd : SRd) (Pg : SPg) (Pt : SPt) (Mk : SMk) (Lk : SLk) (Ck : SCk) (Jd : SJd) (Ld : SLd) (Pr : SPr), va_D A (o_cw ad ca rt Sj T0 T1 Rd Pg Pt Mk Lk Ck Jd Ld Pr) := fun _ _ _ _ _ _ _ _ _ _ _ _ _ => o_D_map hD rfl
  have hl : lv_has ls 5 [(0, .ref (ad 23))] := hl
  unfold m_Rd_readEscape at h
  have C0 := C
  obtain ⟨hx, hb, -, -, -, hown, hts, hK, -, -⟩ := C0
  refine lv_aload_n hx hb d_Rd_readEscape_0 rfl (lv_at hl 0 rfl) ?_
  refine o_get (v := .int (Rd_position Rd)) C in_Rd hP 23 cw_23 rfl 3 (by decide) k_1_97 rfl rfl d_Rd_readEscape_1 ?_
  refine lv_topi (fun x1_4 ex1_4 => ?_)
  replace h := o_nm_at ex1_4 h
  refine lv_istore_n (lv' := [(1, .int x1_4), (0, .ref (ad 23))]) hx hb d_Rd_readEscape_4 rfl hl (by decide) rfl (fun ls hl => ?_)
  refine lv_aload_n hx hb d_Rd_readEscape_5 rfl (lv_at hl 1 rfl) ?_
  refine lv_dup hx hb d_Rd_readEscape_6 rfl ?_
  refine o_get (v := .int (Rd_position Rd)) C in_Rd hP 23 cw_23 rfl 3 (by decide) k_1_97 rfl rfl d_Rd_readEscape_7 ?_
  refine lv_iconst (v := (1:Int32)) hx hb d_Rd_readEscape_10 (by decide) ?_
  refine lv_iadd hx hb d_Rd_readEscape_11 ?_
  refine o_put (v := .int ((Rd_position Rd) + (1:Int32))) (ty := .int) (w1 := (o_cw ad ca rt Sj T0 T1 (Rd_mk (Rd_words Rd) (Rd_wordCount Rd) ((Rd_position Rd) + (1:Int32)) (Rd_limit Rd) (Rd_wrongPlace Rd)) Pg Pt Mk Lk Ck Jd Ld Pr)) C in_Rd t_Rd t_Rd_ok n_Rd hP (hDD _ _ _ _ _ _ _ _ _ _ _ _ _) hS 23 cw_23 rfl 3 (by decide) k_1_97 rfl rfl (by decide +kernel) rfl rfl (Nat.le_of_ble_eq_true rfl) rfl d_Rd_readEscape_12 (fun H locs hP hS => ?_)
  refine lv_aload_n hx hb d_Rd_readEscape_15 rfl (lv_at hl 1 rfl) ?_
  obtain ⟨q1, hq1, h⟩ := o_bd_some h
  refine o_V (st1 := [.int q1]) (w1 := (o_cw ad ca rt Sj T0 T1 (Rd_mk (Rd_words Rd) (Rd_wordCount Rd) ((Rd_position Rd) + (1:Int32)) (Rd_limit Rd) (Rd_wrongPlace Rd)) Pg Pt Mk Lk Ck Jd Ld Pr)) hE.1 C (c_Rd_peek hE l (Rd_mk (Rd_words Rd) (Rd_wordCount Rd) ((Rd_position Rd) + (1:Int32)) (Rd_limit Rd) (Rd_wrongPlace Rd)) Sj T0 T1 Pg Pt Mk Lk Ck Jd Ld Pr rt hq1) hP (hDD _ _ _ _ _ _ _ _ _ _ _ _ _) hS hl.1 rfl cw_23 k_3_38 k_3_40 k_s_3 k_1_3 k_3_41 hv_Rd_peek rfl rfl ⟨(Nat.le_of_ble_eq_true rfl), (Nat.le_of_ble_eq_true rfl)⟩ rfl (Nat.le_of_ble_eq_true rfl) ⟨Nat.zero_le _, Nat.zero_le _⟩ rfl d_Rd_readEscape_16 (fun H locs hP hS => ?_)
  refine lv_istore_n (lv' := [(2, .int q1), (1, .int x1_4), (0, .ref (ad 23))]) hx hb d_Rd_readEscape_19 rfl hl (by decide) rfl (fun ls hl => ?_)
  refine lv_iload_n hx hb d_Rd_readEscape_20 rfl (lv_at hl 0 rfl) ?_
  refine lv_bipush (v := (117:Int32)) hx hb d_Rd_readEscape_21 (by decide) ?_
  refine lv_icmp_eq (tgt := 32) hx hb d_Rd_readEscape_23 (by decide) (fun c1 => ?_) (fun c1 => ?_)
  · replace h := o_tt c1 h
    refine lv_aload_n hx hb d_Rd_readEscape_32 rfl (lv_at hl 2 rfl) ?_
    refine lv_dup hx hb d_Rd_readEscape_33 rfl ?_
    refine o_get (v := .int ((Rd_position Rd) + (1:Int32))) C in_Rd hP 23 cw_23 rfl 3 (by decide) k_1_97 rfl rfl d_Rd_readEscape_34 ?_
    refine lv_iconst (v := (1:Int32)) hx hb d_Rd_readEscape_37 (by decide) ?_
    refine lv_iadd hx hb d_Rd_readEscape_38 ?_
    refine o_put (v := .int (((Rd_position Rd) + (1:Int32)) + (1:Int32))) (ty := .int) (w1 := (o_cw ad ca rt Sj T0 T1 (Rd_mk (Rd_words Rd) (Rd_wordCount Rd) (((Rd_position Rd) + (1:Int32)) + (1:Int32)) (Rd_limit Rd) (Rd_wrongPlace Rd)) Pg Pt Mk Lk Ck Jd Ld Pr)) C in_Rd t_Rd t_Rd_ok n_Rd hP (hDD _ _ _ _ _ _ _ _ _ _ _ _ _) hS 23 cw_23 rfl 3 (by decide) k_1_97 rfl rfl (by decide +kernel) rfl rfl (Nat.le_of_ble_eq_true rfl) rfl d_Rd_readEscape_39 (fun H locs hP hS => ?_)
    refine lv_aload_n hx hb d_Rd_readEscape_42 rfl (lv_at hl 2 rfl) ?_
    obtain ⟨q2, hq2, h⟩ := o_bd_some h
    refine o_V (st1 := [.int q2.1]) (w1 := (o_cw ad ca rt Sj T0 T1 q2.2 Pg Pt Mk Lk Ck Jd Ld Pr)) hE.1 C (c_Rd_readHex hE l n (Rd_mk (Rd_words Rd) (Rd_wordCount Rd) (((Rd_position Rd) + (1:Int32)) + (1:Int32)) (Rd_limit Rd) (Rd_wrongPlace Rd)) Sj T0 T1 Pg Pt Mk Lk Ck Jd Ld Pr rt hq2) hP (hDD _ _ _ _ _ _ _ _ _ _ _ _ _) hS hl.1 rfl cw_23 k_3_147 k_3_149 k_s_12 k_1_3 k_3_150 hv_Rd_readHex rfl rfl ⟨(Nat.le_of_ble_eq_true rfl), (Nat.le_of_ble_eq_true rfl)⟩ rfl (Nat.le_of_ble_eq_true rfl) ⟨Nat.zero_le _, Nat.zero_le _⟩ rfl d_Rd_readEscape_43 (fun H locs hP hS => ?_)
    refine lv_istore_n (lv' := [(3, .int q2.1), (2, .int q1), (1, .int x1_4), (0, .ref (ad 23))]) hx hb d_Rd_readEscape_46 rfl hl (by decide) rfl (fun ls hl => ?_)
    refine lv_iload_n hx hb d_Rd_readEscape_47 rfl (lv_at hl 0 rfl) ?_
    obtain ⟨q3, hq3, h⟩ := o_bd_some h
    refine o_SN (st1 := [.int q3]) (w1 := (o_cw ad ca rt Sj T0 T1 q2.2 Pg Pt Mk Lk Ck Jd Ld Pr)) hE.1 C (c_SJ_isSurrogate hE l q2.1 Sj T0 T1 q2.2 Pg Pt Mk Lk Ck Jd Ld Pr rt hq3) hP (hDD _ _ _ _ _ _ _ _ _ _ _ _ _) hS hl.1 (hE.2.1 _ _ _ C.2.2.2.2.2.2.2.2.2 _ nw_6) k_3_155 k_1_1 k_3_156 hs_SJ_isSurrogate rfl rfl ⟨(Nat.le_of_ble_eq_true rfl), (Nat.le_of_ble_eq_true rfl)⟩ rfl (Nat.le_of_ble_eq_true rfl) ⟨Nat.zero_le _, Nat.zero_le _⟩ rfl d_Rd_readEscape_48 (fun H locs hP hS => ?_)
    refine lv_if_ne (tgt := 56) hx hb d_Rd_readEscape_51 (by decide) (fun c2 => ?_) (fun c2 => ?_)
    · replace h := o_ff c2 h
      refine lv_iconst (v := (-1:Int32)) hx hb d_Rd_readEscape_56 (by decide) ?_
      refine lv_istore (lv' := [(4, .int (-1:Int32)), (3, .int q2.1), (2, .int q1), (1, .int x1_4), (0, .ref (ad 23))]) hx hb d_Rd_readEscape_57 hl (by decide) rfl (fun ls hl => ?_)
      refine lv_iload_n hx hb d_Rd_readEscape_59 rfl (lv_at hl 1 rfl) ?_
      refine lv_ldc (v := (56320:Int32)) hx hb hown (hts _ k_3_159) d_Rd_readEscape_60 ?_
      refine lv_icmp_ge (tgt := 109) hx hb d_Rd_readEscape_62 (by decide) (fun c3 => ?_) (fun c3 => ?_)
      · replace h := o_tt c3 h
        exact w_Rd_readEscape_j109 hE C hDD n x1_4 q2.1 (-1:Int32) q2.2 Sj T0 T1 Pg Pt Mk Lk Ck Jd Ld Pr rt h _ _ _ hP hS (lv_sub hl [4, 3, 1, 0] rfl)
      · replace h := o_ff c3 h
        refine lv_aload_n hx hb d_Rd_readEscape_65 rfl (lv_at hl 4 rfl) ?_
        obtain ⟨q5, hq5, h⟩ := o_bd_some h
        refine o_V (st1 := [.int q5]) (w1 := (o_cw ad ca rt Sj T0 T1 q2.2 Pg Pt Mk Lk Ck Jd Ld Pr)) hE.1 C (c_Rd_peek hE l q2.2 Sj T0 T1 Pg Pt Mk Lk Ck Jd Ld Pr rt hq5) hP (hDD _ _ _ _ _ _ _ _ _ _ _ _ _) hS hl.1 rfl cw_23 k_3_38 k_3_40 k_s_3 k_1_3 k_3_41 hv_Rd_peek rfl rfl ⟨(Nat.le_of_ble_eq_true rfl), (Nat.le_of_ble_eq_true rfl)⟩ rfl (Nat.le_of_ble_eq_true rfl) ⟨Nat.zero_le _, Nat.zero_le _⟩ rfl d_Rd_readEscape_66 (fun H locs hP hS => ?_)
        refine lv_bipush (v := (92:Int32)) hx hb d_Rd_readEscape_69 (by decide) ?_
        refine lv_icmp_ne (tgt := 109) hx hb d_Rd_readEscape_71 (by decide) (fun c6 => ?_) (fun c6 => ?_)
        · replace h := o_ff c6 h
          exact w_Rd_readEscape_j109 hE C hDD n x1_4 q2.1 (-1:Int32) q2.2 Sj T0 T1 Pg Pt Mk Lk Ck Jd Ld Pr rt h _ _ _ hP hS (lv_sub hl [4, 3, 1, 0] rfl)
        · replace h := o_tt c6 h
          refine lv_aload_n hx hb d_Rd_readEscape_74 rfl (lv_at hl 4 rfl) ?_
          refine lv_dup hx hb d_Rd_readEscape_75 rfl ?_
          refine o_get (v := .int (Rd_position q2.2)) C in_Rd hP 23 cw_23 rfl 3 (by decide) k_1_97 rfl rfl d_Rd_readEscape_76 ?_
          refine lv_iconst (v := (1:Int32)) hx hb d_Rd_readEscape_79 (by decide) ?_
          refine lv_iadd hx hb d_Rd_readEscape_80 ?_
          refine o_put (v := .int ((Rd_position q2.2) + (1:Int32))) (ty := .int) (w1 := (o_cw ad ca rt Sj T0 T1 (Rd_mk (Rd_words q2.2) (Rd_wordCount q2.2) ((Rd_position q2.2) + (1:Int32)) (Rd_limit q2.2) (Rd_wrongPlace q2.2)) Pg Pt Mk Lk Ck Jd Ld Pr)) C in_Rd t_Rd t_Rd_ok n_Rd hP (hDD _ _ _ _ _ _ _ _ _ _ _ _ _) hS 23 cw_23 rfl 3 (by decide) k_1_97 rfl rfl (by decide +kernel) rfl rfl (Nat.le_of_ble_eq_true rfl) rfl d_Rd_readEscape_81 (fun H locs hP hS => ?_)
          refine lv_aload_n hx hb d_Rd_readEscape_84 rfl (lv_at hl 4 rfl) ?_
          obtain ⟨q6, hq6, h⟩ := o_bd_some h
          refine o_V (st1 := [.int q6]) (w1 := (o_cw ad ca rt Sj T0 T1 (Rd_mk (Rd_words q2.2) (Rd_wordCount q2.2) ((Rd_position q2.2) + (1:Int32)) (Rd_limit q2.2) (Rd_wrongPlace q2.2)) Pg Pt Mk Lk Ck Jd Ld Pr)) hE.1 C (c_Rd_peek hE l (Rd_mk (Rd_words q2.2) (Rd_wordCount q2.2) ((Rd_position q2.2) + (1:Int32)) (Rd_limit q2.2) (Rd_wrongPlace q2.2)) Sj T0 T1 Pg Pt Mk Lk Ck Jd Ld Pr rt hq6) hP (hDD _ _ _ _ _ _ _ _ _ _ _ _ _) hS hl.1 rfl cw_23 k_3_38 k_3_40 k_s_3 k_1_3 k_3_41 hv_Rd_peek rfl rfl ⟨(Nat.le_of_ble_eq_true rfl), (Nat.le_of_ble_eq_true rfl)⟩ rfl (Nat.le_of_ble_eq_true rfl) ⟨Nat.zero_le _, Nat.zero_le _⟩ rfl d_Rd_readEscape_85 (fun H locs hP hS => ?_)
          refine lv_bipush (v := (117:Int32)) hx hb d_Rd_readEscape_88 (by decide) ?_
          refine lv_icmp_ne (tgt := 109) hx hb d_Rd_readEscape_90 (by decide) (fun c7 => ?_) (fun c7 => ?_)
          · replace h := o_ff c7 h
            exact w_Rd_readEscape_j109 hE C hDD n x1_4 q2.1 (-1:Int32) (Rd_mk (Rd_words q2.2) (Rd_wordCount q2.2) ((Rd_position q2.2) + (1:Int32)) (Rd_limit q2.2) (Rd_wrongPlace q2.2)) Sj T0 T1 Pg Pt Mk Lk Ck Jd Ld Pr rt h _ _ _ hP hS (lv_sub hl [4, 3, 1, 0] rfl)
          · replace h := o_tt c7 h
            refine lv_aload_n hx hb d_Rd_readEscape_93 rfl (lv_at hl 4 rfl) ?_
            refine lv_dup hx hb d_Rd_readEscape_94 rfl ?_
            refine o_get (v := .int ((Rd_position q2.2) + (1:Int32))) C in_Rd hP 23 cw_23 rfl 3 (by decide) k_1_97 rfl rfl d_Rd_readEscape_95 ?_
            refine lv_iconst (v := (1:Int32)) hx hb d_Rd_readEscape_98 (by decide) ?_
            refine lv_iadd hx hb d_Rd_readEscape_99 ?_
            refine o_put (v := .int (((Rd_position q2.2) + (1:Int32)) + (1:Int32))) (ty := .int) (w1 := (o_cw ad ca rt Sj T0 T1 (Rd_mk (Rd_words q2.2) (Rd_wordCount q2.2) (((Rd_position q2.2) + (1:Int32)) + (1:Int32)) (Rd_limit q2.2) (Rd_wrongPlace q2.2)) Pg Pt Mk Lk Ck Jd Ld Pr)) C in_Rd t_Rd t_Rd_ok n_Rd hP (hDD _ _ _ _ _ _ _ _ _ _ _ _ _) hS 23 cw_23 rfl 3 (by decide) k_1_97 rfl rfl (by decide +kernel) rfl rfl (Nat.le_of_ble_eq_true rfl) rfl d_Rd_readEscape_100 (fun H locs hP hS => ?_)
            refine lv_aload_n hx hb d_Rd_readEscape_103 rfl (lv_at hl 4 rfl) ?_
            obtain ⟨q7, hq7, h⟩ := o_bd_some h
            refine o_V (st1 := [.int q7.1]) (w1 := (o_cw ad ca rt Sj T0 T1 q7.2 Pg Pt Mk Lk Ck Jd Ld Pr)) hE.1 C (c_Rd_readHex hE l n (Rd_mk (Rd_words q2.2) (Rd_wordCount q2.2) (((Rd_position q2.2) + (1:Int32)) + (1:Int32)) (Rd_limit q2.2) (Rd_wrongPlace q2.2)) Sj T0 T1 Pg Pt Mk Lk Ck Jd Ld Pr rt hq7) hP (hDD _ _ _ _ _ _ _ _ _ _ _ _ _) hS hl.1 rfl cw_23 k_3_147 k_3_149 k_s_12 k_1_3 k_3_150 hv_Rd_readHex rfl rfl ⟨(Nat.le_of_ble_eq_true rfl), (Nat.le_of_ble_eq_true rfl)⟩ rfl (Nat.le_of_ble_eq_true rfl) ⟨Nat.zero_le _, Nat.zero_le _⟩ rfl d_Rd_readEscape_104 (fun H locs hP hS => ?_)
            refine lv_istore (lv' := [(4, .int q7.1), (3, .int q2.1), (2, .int q1), (1, .int x1_4), (0, .ref (ad 23))]) hx hb d_Rd_readEscape_107 hl (by decide) rfl (fun ls hl => ?_)
            exact w_Rd_readEscape_j109 hE C hDD n x1_4 q2.1 q7.1 q7.2 Sj T0 T1 Pg Pt Mk Lk Ck Jd Ld Pr rt h _ _ _ hP hS (lv_sub hl [4, 3, 1, 0] rfl)
    · replace h := o_tt c2 h
      refine lv_iload_n hx hb d_Rd_readEscape_54 rfl (lv_at hl 0 rfl) ?_
      cases h
      exact o_ri C hP hS d_Rd_readEscape_55
  · replace h := o_ff c1 h
    refine lv_aload_n hx hb d_Rd_readEscape_26 rfl (lv_at hl 2 rfl) ?_
    refine lv_iload_n hx hb d_Rd_readEscape_27 rfl (lv_at hl 0 rfl) ?_
    obtain ⟨q8, hq8, h⟩ := o_bd_some h
    refine o_V (st1 := [.int q8.1]) (w1 := (o_cw ad ca rt Sj T0 T1 q8.2 Pg Pt Mk Lk Ck Jd Ld Pr)) hE.1 C (c_Rd_readShortEscape hE l q1 (Rd_mk (Rd_words Rd) (Rd_wordCount Rd) ((Rd_position Rd) + (1:Int32)) (Rd_limit Rd) (Rd_wrongPlace Rd)) Sj T0 T1 Pg Pt Mk Lk Ck Jd Ld Pr rt hq8) hP (hDD _ _ _ _ _ _ _ _ _ _ _ _ _) hS hl.1 rfl cw_23 k_3_143 k_3_145 k_s_11 k_1_3 k_3_146 hv_Rd_readShortEscape rfl rfl ⟨(Nat.le_of_ble_eq_true rfl), (Nat.le_of_ble_eq_true rfl)⟩ rfl (Nat.le_of_ble_eq_true rfl) ⟨Nat.zero_le _, Nat.zero_le _⟩ rfl d_Rd_readEscape_28 (fun H locs hP hS => ?_)
    cases h
    exact o_ri C hP hS d_Rd_readEscape_31
set_option maxHeartbeats 4000000 in
set_option maxRecDepth 100000 in
theorem w_SJ_utf8Tail_j45 {E : (Nat → Prop) → State → Heap → Prop} {p : Program} {l : Launch} {e : Env} {s : State} {m : MethodId} {args : Array Value} {below : List Frame} {meth : Method} {c : Code} {D : va_G} {ad kd sd vd xd : Nat → Nat} {ca : Nat → ClassId} {A : Nat → Prop} (hE : o_EK E kd sd vd xd) (C : o_Cx E p s m args meth c D o_cls (o_tys ca) "SchemaJudge" b_SJ_utf8Tail (some .int) 1 cc_SJ_utf8Tail A) (hDD : ∀ (rt : Nat) (Sj : SSJ) (T0 : STx) (T1 : STx) (Rd : SRd) (Pg : SPg) (Pt : SPt) (Mk : SMk) (Lk : SLk) (Ck : SCk) (Jd : SJd) (Ld : SLd) (Pr : SPr), va_D A (o_cw ad ca rt Sj T0 T1 Rd Pg Pt Mk Lk Ck Jd Ld Pr)) (x0 : Int32) (Sj : SSJ) (T0 : STx) (T1 : STx) (Rd : SRd) (Pg : SPg) (Pt : SPt) (Mk : SMk) (Lk : SLk) (Ck : SCk) (Jd : SJd) (Ld : SLd) (Pr : SPr) (rt : Nat) {r : Int32} (h : m_SJ_utf8Tail_j45 x0 = some r) : o_At p l e rm_SJ_utf8Tail s m args below meth c (MQ below (o_Qx D o_cls (some (.int r)) (o_cw ad ca rt Sj T0 T1 Rd Pg Pt Mk Lk Ck Jd Ld Pr) A) args s 0 0 A) o_cls D A 1 45 [] (o_cw ad ca rt Sj T0 T1 Rd Pg Pt Mk Lk Ck Jd Ld Pr) [(0, .int x0)] := by
  unfold m_SJ_utf8Tail_j45 at h
  intro H locs ls hP hS hl
  have C0 := C
  obtain ⟨hx, hb, -, -, -, hown, hts, hK, -, -⟩ := C0
  refine lv_iload_n hx hb d_SJ_utf8Tail_45 rfl (lv_at hl 0 rfl) ?_
  refine lv_sipush (v := (240:Int32)) hx hb d_SJ_utf8Tail_46 (by decide) ?_
  refine lv_icmp_lt (tgt := 63) hx hb d_SJ_utf8Tail_49 (by decide) (fun c4 => ?_) (fun c4 => ?_)
  · replace h := o_tt c4 h
    refine lv_iconst (v := (-1:Int32)) hx hb d_SJ_utf8Tail_63 (by decide) ?_
    cases h
    exact o_ri (v := (-1:Int32)) C hP hS d_SJ_utf8Tail_64
  · replace h := o_ff c4 h
    refine lv_iload_n hx hb d_SJ_utf8Tail_52 rfl (lv_at hl 0 rfl) ?_
    refine lv_sipush (v := (244:Int32)) hx hb d_SJ_utf8Tail_53 (by decide) ?_
    refine lv_icmp_gt (tgt := 63) hx hb d_SJ_utf8Tail_56 (by decide) (fun c5 => ?_) (fun c5 => ?_)
    · replace h := o_tt c5 h
      refine lv_iconst (v := (-1:Int32)) hx hb d_SJ_utf8Tail_63 (by decide) ?_
      cases h
      exact o_ri (v := (-1:Int32)) C hP hS d_SJ_utf8Tail_64
    · replace h := o_ff c5 h
      refine lv_iconst (v := (3:Int32)) hx hb d_SJ_utf8Tail_59 (by decide) ?_
      refine lv_goto (tgt := 64) hx hb d_SJ_utf8Tail_60 (by decide) ?_
      cases h
      exact o_ri (v := (3:Int32)) C hP hS d_SJ_utf8Tail_64
set_option maxHeartbeats 4000000 in
set_option maxRecDepth 100000 in
theorem w_SJ_utf8Tail_j29 {E : (Nat → Prop) → State → Heap → Prop} {p : Program} {l : Launch} {e : Env} {s : State} {m : MethodId} {args : Array Value} {below : List Frame} {meth : Method} {c : Code} {D : va_G} {ad kd sd vd xd : Nat → Nat} {ca : Nat → ClassId} {A : Nat → Prop} (hE : o_EK E kd sd vd xd) (C : o_Cx E p s m args meth c D o_cls (o_tys ca) "SchemaJudge" b_SJ_utf8Tail (some .int) 1 cc_SJ_utf8Tail A) (hDD : ∀ (rt : Nat) (Sj : SSJ) (T0 : STx) (T1 : STx) (Rd : SRd) (Pg : SPg) (Pt : SPt) (Mk : SMk) (Lk : SLk) (Ck : SCk) (Jd : SJd) (Ld : SLd) (Pr : SPr), va_D A (o_cw ad ca rt Sj T0 T1 Rd Pg Pt Mk Lk Ck Jd Ld Pr)) (x0 : Int32) (Sj : SSJ) (T0 : STx) (T1 : STx) (Rd : SRd) (Pg : SPg) (Pt : SPt) (Mk : SMk) (Lk : SLk) (Ck : SCk) (Jd : SJd) (Ld : SLd) (Pr : SPr) (rt : Nat) {r : Int32} (h : m_SJ_utf8Tail_j29 x0 = some r) : o_At p l e rm_SJ_utf8Tail s m args below meth c (MQ below (o_Qx D o_cls (some (.int r)) (o_cw ad ca rt Sj T0 T1 Rd Pg Pt Mk Lk Ck Jd Ld Pr) A) args s 0 0 A) o_cls D A 1 29 [] (o_cw ad ca rt Sj T0 T1 Rd Pg Pt Mk Lk Ck Jd Ld Pr) [(0, .int x0)] := by
  unfold m_SJ_utf8Tail_j29 at h
  intro H locs ls hP hS hl
  have C0 := C
  obtain ⟨hx, hb, -, -, -, hown, hts, hK, -, -⟩ := C0
  refine lv_iload_n hx hb d_SJ_utf8Tail_29 rfl (lv_at hl 0 rfl) ?_
  refine lv_sipush (v := (224:Int32)) hx hb d_SJ_utf8Tail_30 (by decide) ?_
  refine lv_icmp_lt (tgt := 45) hx hb d_SJ_utf8Tail_33 (by decide) (fun c3 => ?_) (fun c3 => ?_)
  · replace h := o_tt c3 h
    exact w_SJ_utf8Tail_j45 hE C hDD x0 Sj T0 T1 Rd Pg Pt Mk Lk Ck Jd Ld Pr rt h _ _ _ hP hS (lv_sub hl [0] rfl)
  · replace h := o_ff c3 h
    refine lv_iload_n hx hb d_SJ_utf8Tail_36 rfl (lv_at hl 0 rfl) ?_
    refine lv_sipush (v := (239:Int32)) hx hb d_SJ_utf8Tail_37 (by decide) ?_
    refine lv_icmp_gt (tgt := 45) hx hb d_SJ_utf8Tail_40 (by decide) (fun c6 => ?_) (fun c6 => ?_)
    · replace h := o_tt c6 h
      exact w_SJ_utf8Tail_j45 hE C hDD x0 Sj T0 T1 Rd Pg Pt Mk Lk Ck Jd Ld Pr rt h _ _ _ hP hS (lv_sub hl [0] rfl)
    · replace h := o_ff c6 h
      refine lv_iconst (v := (2:Int32)) hx hb d_SJ_utf8Tail_43 (by decide) ?_
      cases h
      exact o_ri (v := (2:Int32)) C hP hS d_SJ_utf8Tail_44
set_option maxHeartbeats 4000000 in
set_option maxRecDepth 100000 in
theorem w_SJ_utf8Tail_j13 {E : (Nat → Prop) → State → Heap → Prop} {p : Program} {l : Launch} {e : Env} {s : State} {m : MethodId} {args : Array Value} {below : List Frame} {meth : Method} {c : Code} {D : va_G} {ad kd sd vd xd : Nat → Nat} {ca : Nat → ClassId} {A : Nat → Prop} (hE : o_EK E kd sd vd xd) (C : o_Cx E p s m args meth c D o_cls (o_tys ca) "SchemaJudge" b_SJ_utf8Tail (some .int) 1 cc_SJ_utf8Tail A) (hDD : ∀ (rt : Nat) (Sj : SSJ) (T0 : STx) (T1 : STx) (Rd : SRd) (Pg : SPg) (Pt : SPt) (Mk : SMk) (Lk : SLk) (Ck : SCk) (Jd : SJd) (Ld : SLd) (Pr : SPr), va_D A (o_cw ad ca rt Sj T0 T1 Rd Pg Pt Mk Lk Ck Jd Ld Pr)) (x0 : Int32) (Sj : SSJ) (T0 : STx) (T1 : STx) (Rd : SRd) (Pg : SPg) (Pt : SPt) (Mk : SMk) (Lk : SLk) (Ck : SCk) (Jd : SJd) (Ld : SLd) (Pr : SPr) (rt : Nat) {r : Int32} (h : m_SJ_utf8Tail_j13 x0 = some r) : o_At p l e rm_SJ_utf8Tail s m args below meth c (MQ below (o_Qx D o_cls (some (.int r)) (o_cw ad ca rt Sj T0 T1 Rd Pg Pt Mk Lk Ck Jd Ld Pr) A) args s 0 0 A) o_cls D A 1 13 [] (o_cw ad ca rt Sj T0 T1 Rd Pg Pt Mk Lk Ck Jd Ld Pr) [(0, .int x0)] := by
  unfold m_SJ_utf8Tail_j13 at h
  intro H locs ls hP hS hl
  have C0 := C
  obtain ⟨hx, hb, -, -, -, hown, hts, hK, -, -⟩ := C0
  refine lv_iload_n hx hb d_SJ_utf8Tail_13 rfl (lv_at hl 0 rfl) ?_
  refine lv_sipush (v := (194:Int32)) hx hb d_SJ_utf8Tail_14 (by decide) ?_
  refine lv_icmp_lt (tgt := 29) hx hb d_SJ_utf8Tail_17 (by decide) (fun c2 => ?_) (fun c2 => ?_)
  · replace h := o_tt c2 h
    exact w_SJ_utf8Tail_j29 hE C hDD x0 Sj T0 T1 Rd Pg Pt Mk Lk Ck Jd Ld Pr rt h _ _ _ hP hS (lv_sub hl [0] rfl)
  · replace h := o_ff c2 h
    refine lv_iload_n hx hb d_SJ_utf8Tail_20 rfl (lv_at hl 0 rfl) ?_
    refine lv_sipush (v := (223:Int32)) hx hb d_SJ_utf8Tail_21 (by decide) ?_
    refine lv_icmp_gt (tgt := 29) hx hb d_SJ_utf8Tail_24 (by decide) (fun c7 => ?_) (fun c7 => ?_)
    · replace h := o_tt c7 h
      exact w_SJ_utf8Tail_j29 hE C hDD x0 Sj T0 T1 Rd Pg Pt Mk Lk Ck Jd Ld Pr rt h _ _ _ hP hS (lv_sub hl [0] rfl)
    · replace h := o_ff c7 h
      refine lv_iconst (v := (1:Int32)) hx hb d_SJ_utf8Tail_27 (by decide) ?_
      cases h
      exact o_ri (v := (1:Int32)) C hP hS d_SJ_utf8Tail_28
set_option maxHeartbeats 4000000 in
set_option maxRecDepth 100000 in
theorem c_SJ_utf8Tail {E : (Nat → Prop) → State → Heap → Prop} {D : va_G} {ad kd sd vd xd : Nat → Nat} {ca : Nat → ClassId} (hE : o_EK E kd sd vd xd) (l : Launch) (x0 : Int32) (Sj : SSJ) (T0 : STx) (T1 : STx) (Rd : SRd) (Pg : SPg) (Pt : SPt) (Mk : SMk) (Lk : SLk) (Ck : SCk) (Jd : SJd) (Ld : SLd) (Pr : SPr) (rt : Nat) {r : Int32} (h : m_SJ_utf8Tail x0 = some r) : o_Cn E l D o_cls (o_tys ca) y_SJ_utf8Tail cc_SJ_utf8Tail rm_SJ_utf8Tail [.int x0] (o_cw ad ca rt Sj T0 T1 Rd Pg Pt Mk Lk Ck Jd Ld Pr) (o_cw ad ca rt Sj T0 T1 Rd Pg Pt Mk Lk Ck Jd Ld Pr) (some (.int r)) := by
  refine o_Cn_of (by decide) (Nat.le_of_ble_eq_true rfl) ?_
  intro p e s m below meth c A ls C hD hP hS hl
  have hDD : ∀ (rt : Nat) (Sj : SSJ) (T0 : STx) (T1 : STx) (Rd : SRd) (Pg : SPg) (Pt : SPt) (Mk : SMk) (Lk : SLk) (Ck : SCk) (Jd : SJd) (Ld : SLd) (Pr : SPr), va_D A (o_cw ad ca rt Sj T0 T1 Rd Pg Pt Mk Lk Ck Jd Ld Pr) := fun _ _ _ _ _ _ _ _ _ _ _ _ _ => o_D_map hD rfl
  have hl : lv_has ls 1 [(0, .int x0)] := hl
  unfold m_SJ_utf8Tail at h
  have C0 := C
  obtain ⟨hx, hb, -, -, -, hown, hts, hK, -, -⟩ := C0
  refine lv_iload_n hx hb d_SJ_utf8Tail_0 rfl (lv_at hl 0 rfl) ?_
  refine lv_if_lt (tgt := 13) hx hb d_SJ_utf8Tail_1 (by decide) (fun c1 => ?_) (fun c1 => ?_)
  · replace h := o_tt c1 h
    exact w_SJ_utf8Tail_j13 hE C hDD x0 Sj T0 T1 Rd Pg Pt Mk Lk Ck Jd Ld Pr rt h _ _ _ hP hS (lv_sub hl [0] rfl)
  · replace h := o_ff c1 h
    refine lv_iload_n hx hb d_SJ_utf8Tail_4 rfl (lv_at hl 0 rfl) ?_
    refine lv_sipush (v := (128:Int32)) hx hb d_SJ_utf8Tail_5 (by decide) ?_
    refine lv_icmp_ge (tgt := 13) hx hb d_SJ_utf8Tail_8 (by decide) (fun c8 => ?_) (fun c8 => ?_)
    · replace h := o_tt c8 h
      exact w_SJ_utf8Tail_j13 hE C hDD x0 Sj T0 T1 Rd Pg Pt Mk Lk Ck Jd Ld Pr rt h _ _ _ hP hS (lv_sub hl [0] rfl)
    · replace h := o_ff c8 h
      refine lv_iconst (v := (0:Int32)) hx hb d_SJ_utf8Tail_11 (by decide) ?_
      cases h
      exact o_ri (v := (0:Int32)) C hP hS d_SJ_utf8Tail_12
set_option maxHeartbeats 4000000 in
set_option maxRecDepth 100000 in
theorem c_SJ_utf8Head {E : (Nat → Prop) → State → Heap → Prop} {D : va_G} {ad kd sd vd xd : Nat → Nat} {ca : Nat → ClassId} (hE : o_EK E kd sd vd xd) (l : Launch) (x0 : Int32) (x1 : Int32) (Sj : SSJ) (T0 : STx) (T1 : STx) (Rd : SRd) (Pg : SPg) (Pt : SPt) (Mk : SMk) (Lk : SLk) (Ck : SCk) (Jd : SJd) (Ld : SLd) (Pr : SPr) (rt : Nat) {r : Int32} (h : m_SJ_utf8Head x0 x1 = some r) : o_Cn E l D o_cls (o_tys ca) y_SJ_utf8Head cc_SJ_utf8Head rm_SJ_utf8Head [.int x0, .int x1] (o_cw ad ca rt Sj T0 T1 Rd Pg Pt Mk Lk Ck Jd Ld Pr) (o_cw ad ca rt Sj T0 T1 Rd Pg Pt Mk Lk Ck Jd Ld Pr) (some (.int r)) := by
  refine o_Cn_of (by decide) (Nat.le_of_ble_eq_true rfl) ?_
  intro p e s m below meth c A ls C hD hP hS hl
  have hDD : ∀ (rt : Nat) (Sj : SSJ) (T0 : STx) (T1 : STx) (Rd : SRd) (Pg : SPg) (Pt : SPt) (Mk : SMk) (Lk : SLk) (Ck : SCk) (Jd : SJd) (Ld : SLd) (Pr : SPr), va_D A (o_cw ad ca rt Sj T0 T1 Rd Pg Pt Mk Lk Ck Jd Ld Pr) := fun _ _ _ _ _ _ _ _ _ _ _ _ _ => o_D_map hD rfl
  have hl : lv_has ls 2 [(0, .int x0), (1, .int x1)] := hl
  unfold m_SJ_utf8Head at h
  have C0 := C
  obtain ⟨hx, hb, -, -, -, hown, hts, hK, -, -⟩ := C0
  refine lv_iload_n hx hb d_SJ_utf8Head_0 rfl (lv_at hl 1 rfl) ?_
  refine lv_if_ne (tgt := 8) hx hb d_SJ_utf8Head_1 (by decide) (fun c1 => ?_) (fun c1 => ?_)
  · replace h := o_ff c1 h
    refine lv_iload_n hx hb d_SJ_utf8Head_8 rfl (lv_at hl 0 rfl) ?_
    refine lv_bipush (v := (63:Int32)) hx hb d_SJ_utf8Head_9 (by decide) ?_
    refine lv_iload_n hx hb d_SJ_utf8Head_11 rfl (lv_at hl 1 rfl) ?_
    refine lv_ishr hx hb d_SJ_utf8Head_12 ?_
    refine lv_iand hx hb d_SJ_utf8Head_13 ?_
    cases h
    exact o_ri (v := (x0 &&& ((63:Int32) >>> (x1 &&& 31)))) C hP hS d_SJ_utf8Head_14
  · replace h := o_tt c1 h
    refine lv_iload_n hx hb d_SJ_utf8Head_4 rfl (lv_at hl 0 rfl) ?_
    refine lv_goto (tgt := 14) hx hb d_SJ_utf8Head_5 (by decide) ?_
    cases h
    exact o_ri C hP hS d_SJ_utf8Head_14
set_option maxHeartbeats 4000000 in
set_option maxRecDepth 100000 in
theorem c_SJ_utf8Follows {E : (Nat → Prop) → State → Heap → Prop} {D : va_G} {ad kd sd vd xd : Nat → Nat} {ca : Nat → ClassId} (hE : o_EK E kd sd vd xd) (l : Launch) (x0 : Int32) (Sj : SSJ) (T0 : STx) (T1 : STx) (Rd : SRd) (Pg : SPg) (Pt : SPt) (Mk : SMk) (Lk : SLk) (Ck : SCk) (Jd : SJd) (Ld : SLd) (Pr : SPr) (rt : Nat) {r : Int32} (h : m_SJ_utf8Follows x0 = some r) : o_Cn E l D o_cls (o_tys ca) y_SJ_utf8Follows cc_SJ_utf8Follows rm_SJ_utf8Follows [.int x0] (o_cw ad ca rt Sj T0 T1 Rd Pg Pt Mk Lk Ck Jd Ld Pr) (o_cw ad ca rt Sj T0 T1 Rd Pg Pt Mk Lk Ck Jd Ld Pr) (some (.int r)) := by
  refine o_Cn_of (by decide) (Nat.le_of_ble_eq_true rfl) ?_
  intro p e s m below meth c A ls C hD hP hS hl
  have hDD : ∀ (rt : Nat) (Sj : SSJ) (T0 : STx) (T1 : STx) (Rd : SRd) (Pg : SPg) (Pt : SPt) (Mk : SMk) (Lk : SLk) (Ck : SCk) (Jd : SJd) (Ld : SLd) (Pr : SPr), va_D A (o_cw ad ca rt Sj T0 T1 Rd Pg Pt Mk Lk Ck Jd Ld Pr) := fun _ _ _ _ _ _ _ _ _ _ _ _ _ => o_D_map hD rfl
  have hl : lv_has ls 1 [(0, .int x0)] := hl
  unfold m_SJ_utf8Follows at h
  have C0 := C
  obtain ⟨hx, hb, -, -, -, hown, hts, hK, -, -⟩ := C0
  refine lv_iload_n hx hb d_SJ_utf8Follows_0 rfl (lv_at hl 0 rfl) ?_
  refine lv_sipush (v := (128:Int32)) hx hb d_SJ_utf8Follows_1 (by decide) ?_
  refine lv_icmp_lt (tgt := 18) hx hb d_SJ_utf8Follows_4 (by decide) (fun c1 => ?_) (fun c1 => ?_)
  · replace h := o_tt c1 h
    refine lv_iconst (v := (0:Int32)) hx hb d_SJ_utf8Follows_18 (by decide) ?_
    cases h
    exact o_rz (v := (0:Int32)) C o_nar0 hP hS d_SJ_utf8Follows_19
  · replace h := o_ff c1 h
    refine lv_iload_n hx hb d_SJ_utf8Follows_7 rfl (lv_at hl 0 rfl) ?_
    refine lv_sipush (v := (191:Int32)) hx hb d_SJ_utf8Follows_8 (by decide) ?_
    refine lv_icmp_gt (tgt := 18) hx hb d_SJ_utf8Follows_11 (by decide) (fun c2 => ?_) (fun c2 => ?_)
    · replace h := o_tt c2 h
      refine lv_iconst (v := (0:Int32)) hx hb d_SJ_utf8Follows_18 (by decide) ?_
      cases h
      exact o_rz (v := (0:Int32)) C o_nar0 hP hS d_SJ_utf8Follows_19
    · replace h := o_ff c2 h
      refine lv_iconst (v := (1:Int32)) hx hb d_SJ_utf8Follows_14 (by decide) ?_
      refine lv_goto (tgt := 19) hx hb d_SJ_utf8Follows_15 (by decide) ?_
      cases h
      exact o_rz (v := (1:Int32)) C o_nar1 hP hS d_SJ_utf8Follows_19
set_option maxHeartbeats 4000000 in
set_option maxRecDepth 100000 in
theorem w_SJ_utf8Legal_j30 {E : (Nat → Prop) → State → Heap → Prop} {p : Program} {l : Launch} {e : Env} {s : State} {m : MethodId} {args : Array Value} {below : List Frame} {meth : Method} {c : Code} {D : va_G} {ad kd sd vd xd : Nat → Nat} {ca : Nat → ClassId} {A : Nat → Prop} (hE : o_EK E kd sd vd xd) (C : o_Cx E p s m args meth c D o_cls (o_tys ca) "SchemaJudge" b_SJ_utf8Legal (some .boolean) 3 cc_SJ_utf8Legal A) (hDD : ∀ (rt : Nat) (Sj : SSJ) (T0 : STx) (T1 : STx) (Rd : SRd) (Pg : SPg) (Pt : SPt) (Mk : SMk) (Lk : SLk) (Ck : SCk) (Jd : SJd) (Ld : SLd) (Pr : SPr), va_D A (o_cw ad ca rt Sj T0 T1 Rd Pg Pt Mk Lk Ck Jd Ld Pr)) (x0 : Int32) (y0 : Int32) (Sj : SSJ) (T0 : STx) (T1 : STx) (Rd : SRd) (Pg : SPg) (Pt : SPt) (Mk : SMk) (Lk : SLk) (Ck : SCk) (Jd : SJd) (Ld : SLd) (Pr : SPr) (rt : Nat) {r : Int32} (h : m_SJ_utf8Legal_j30 x0 y0 = some r) : o_At p l e rm_SJ_utf8Legal s m args below meth c (MQ below (o_Qx D o_cls (some (.int r)) (o_cw ad ca rt Sj T0 T1 Rd Pg Pt Mk Lk Ck Jd Ld Pr) A) args s 0 0 A) o_cls D A 3 30 [.int y0] (o_cw ad ca rt Sj T0 T1 Rd Pg Pt Mk Lk Ck Jd Ld Pr) [(0, .int x0)] := by
  unfold m_SJ_utf8Legal_j30 at h
  intro H locs ls hP hS hl
  have C0 := C
  obtain ⟨hx, hb, -, -, -, hown, hts, hK, -, -⟩ := C0
  refine lv_istore_n (lv' := [(2, .int y0), (0, .int x0)]) hx hb d_SJ_utf8Legal_30 rfl hl (by decide) rfl (fun ls hl => ?_)
  refine lv_iload_n hx hb d_SJ_utf8Legal_31 rfl (lv_at hl 1 rfl) ?_
  refine lv_iload_n hx hb d_SJ_utf8Legal_32 rfl (lv_at hl 0 rfl) ?_
  refine lv_icmp_lt (tgt := 53) hx hb d_SJ_utf8Legal_33 (by decide) (fun c4 => ?_) (fun c4 => ?_)
  · replace h := o_tt c4 h
    refine lv_iconst (v := (0:Int32)) hx hb d_SJ_utf8Legal_53 (by decide) ?_
    cases h
    exact o_rz (v := (0:Int32)) C o_nar0 hP hS d_SJ_utf8Legal_54
  · replace h := o_ff c4 h
    refine lv_iload_n hx hb d_SJ_utf8Legal_36 rfl (lv_at hl 1 rfl) ?_
    refine lv_ldc (v := (1114111:Int32)) hx hb hown (hts _ k_3_180) d_SJ_utf8Legal_37 ?_
    refine lv_icmp_gt (tgt := 53) hx hb d_SJ_utf8Legal_39 (by decide) (fun c5 => ?_) (fun c5 => ?_)
    · replace h := o_tt c5 h
      refine lv_iconst (v := (0:Int32)) hx hb d_SJ_utf8Legal_53 (by decide) ?_
      cases h
      exact o_rz (v := (0:Int32)) C o_nar0 hP hS d_SJ_utf8Legal_54
    · replace h := o_ff c5 h
      refine lv_iload_n hx hb d_SJ_utf8Legal_42 rfl (lv_at hl 1 rfl) ?_
      obtain ⟨q1, hq1, h⟩ := o_bd_some h
      refine o_S (st1 := [.int q1]) (w1 := (o_cw ad ca rt Sj T0 T1 Rd Pg Pt Mk Lk Ck Jd Ld Pr)) hE.1 C (c_SJ_isSurrogate hE l x0 Sj T0 T1 Rd Pg Pt Mk Lk Ck Jd Ld Pr rt hq1) hP (hDD _ _ _ _ _ _ _ _ _ _ _ _ _) hS hl.1 k_3_181 k_3_155 k_1_1 k_3_156 hs_SJ_isSurrogate rfl rfl ⟨(Nat.le_of_ble_eq_true rfl), (Nat.le_of_ble_eq_true rfl)⟩ rfl (Nat.le_of_ble_eq_true rfl) ⟨Nat.zero_le _, Nat.zero_le _⟩ rfl d_SJ_utf8Legal_43 (fun H locs hP hS => ?_)
      refine lv_if_ne (tgt := 53) hx hb d_SJ_utf8Legal_46 (by decide) (fun c6 => ?_) (fun c6 => ?_)
      · replace h := o_ff c6 h
        refine lv_iconst (v := (0:Int32)) hx hb d_SJ_utf8Legal_53 (by decide) ?_
        cases h
        exact o_rz (v := (0:Int32)) C o_nar0 hP hS d_SJ_utf8Legal_54
      · replace h := o_tt c6 h
        refine lv_iconst (v := (1:Int32)) hx hb d_SJ_utf8Legal_49 (by decide) ?_
        refine lv_goto (tgt := 54) hx hb d_SJ_utf8Legal_50 (by decide) ?_
        cases h
        exact o_rz (v := (1:Int32)) C o_nar1 hP hS d_SJ_utf8Legal_54
set_option maxHeartbeats 4000000 in
set_option maxRecDepth 100000 in
theorem c_SJ_utf8Legal {E : (Nat → Prop) → State → Heap → Prop} {D : va_G} {ad kd sd vd xd : Nat → Nat} {ca : Nat → ClassId} (hE : o_EK E kd sd vd xd) (l : Launch) (x0 : Int32) (x1 : Int32) (Sj : SSJ) (T0 : STx) (T1 : STx) (Rd : SRd) (Pg : SPg) (Pt : SPt) (Mk : SMk) (Lk : SLk) (Ck : SCk) (Jd : SJd) (Ld : SLd) (Pr : SPr) (rt : Nat) {r : Int32} (h : m_SJ_utf8Legal x0 x1 = some r) : o_Cn E l D o_cls (o_tys ca) y_SJ_utf8Legal cc_SJ_utf8Legal rm_SJ_utf8Legal [.int x0, .int x1] (o_cw ad ca rt Sj T0 T1 Rd Pg Pt Mk Lk Ck Jd Ld Pr) (o_cw ad ca rt Sj T0 T1 Rd Pg Pt Mk Lk Ck Jd Ld Pr) (some (.int r)) := by
  refine o_Cn_of (by decide) (Nat.le_of_ble_eq_true rfl) ?_
  intro p e s m below meth c A ls C hD hP hS hl
  have hDD : ∀ (rt : Nat) (Sj : SSJ) (T0 : STx) (T1 : STx) (Rd : SRd) (Pg : SPg) (Pt : SPt) (Mk : SMk) (Lk : SLk) (Ck : SCk) (Jd : SJd) (Ld : SLd) (Pr : SPr), va_D A (o_cw ad ca rt Sj T0 T1 Rd Pg Pt Mk Lk Ck Jd Ld Pr) := fun _ _ _ _ _ _ _ _ _ _ _ _ _ => o_D_map hD rfl
  have hl : lv_has ls 3 [(0, .int x0), (1, .int x1)] := hl
  unfold m_SJ_utf8Legal at h
  have C0 := C
  obtain ⟨hx, hb, -, -, -, hown, hts, hK, -, -⟩ := C0
  refine lv_iload_n hx hb d_SJ_utf8Legal_0 rfl (lv_at hl 1 rfl) ?_
  refine lv_if_ne (tgt := 6) hx hb d_SJ_utf8Legal_1 (by decide) (fun c1 => ?_) (fun c1 => ?_)
  · replace h := o_ff c1 h
    refine lv_iload_n hx hb d_SJ_utf8Legal_6 rfl (lv_at hl 1 rfl) ?_
    refine lv_iconst (v := (1:Int32)) hx hb d_SJ_utf8Legal_7 (by decide) ?_
    refine lv_icmp_ne (tgt := 17) hx hb d_SJ_utf8Legal_8 (by decide) (fun c2 => ?_) (fun c2 => ?_)
    · replace h := o_ff c2 h
      refine lv_iload_n hx hb d_SJ_utf8Legal_17 rfl (lv_at hl 1 rfl) ?_
      refine lv_iconst (v := (2:Int32)) hx hb d_SJ_utf8Legal_18 (by decide) ?_
      refine lv_icmp_ne (tgt := 28) hx hb d_SJ_utf8Legal_19 (by decide) (fun c3 => ?_) (fun c3 => ?_)
      · replace h := o_ff c3 h
        refine lv_ldc (v := (65536:Int32)) hx hb hown (hts _ k_3_179) d_SJ_utf8Legal_28 ?_
        exact w_SJ_utf8Legal_j30 hE C hDD x0 (65536:Int32) Sj T0 T1 Rd Pg Pt Mk Lk Ck Jd Ld Pr rt h _ _ _ hP hS (lv_sub hl [0] rfl)
      · replace h := o_tt c3 h
        refine lv_sipush (v := (2048:Int32)) hx hb d_SJ_utf8Legal_22 (by decide) ?_
        refine lv_goto (tgt := 30) hx hb d_SJ_utf8Legal_25 (by decide) ?_
        exact w_SJ_utf8Legal_j30 hE C hDD x0 (2048:Int32) Sj T0 T1 Rd Pg Pt Mk Lk Ck Jd Ld Pr rt h _ _ _ hP hS (lv_sub hl [0] rfl)
    · replace h := o_tt c2 h
      refine lv_sipush (v := (128:Int32)) hx hb d_SJ_utf8Legal_11 (by decide) ?_
      refine lv_goto (tgt := 30) hx hb d_SJ_utf8Legal_14 (by decide) ?_
      exact w_SJ_utf8Legal_j30 hE C hDD x0 (128:Int32) Sj T0 T1 Rd Pg Pt Mk Lk Ck Jd Ld Pr rt h _ _ _ hP hS (lv_sub hl [0] rfl)
  · replace h := o_tt c1 h
    refine lv_iconst (v := (1:Int32)) hx hb d_SJ_utf8Legal_4 (by decide) ?_
    cases h
    exact o_rz (v := (1:Int32)) C o_nar1 hP hS d_SJ_utf8Legal_5
set_option maxHeartbeats 4000000 in
set_option maxRecDepth 100000 in
theorem w_Rd_readCharacter_j26 {E : (Nat → Prop) → State → Heap → Prop} {p : Program} {l : Launch} {e : Env} {s : State} {m : MethodId} {args : Array Value} {below : List Frame} {meth : Method} {c : Code} {D : va_G} {ad kd sd vd xd : Nat → Nat} {ca : Nat → ClassId} {A : Nat → Prop} (hE : o_EK E kd sd vd xd) (C : o_Cx E p s m args meth c D o_cls (o_tys ca) "SchemaJudge$Reader" b_Rd_readCharacter (some .int) 7 cc_Rd_readCharacter A) (hDD : ∀ (rt : Nat) (Sj : SSJ) (T0 : STx) (T1 : STx) (Rd : SRd) (Pg : SPg) (Pt : SPt) (Mk : SMk) (Lk : SLk) (Ck : SCk) (Jd : SJd) (Ld : SLd) (Pr : SPr), va_D A (o_cw ad ca rt Sj T0 T1 Rd Pg Pt Mk Lk Ck Jd Ld Pr)) (n : Nat) (x1 : Int32) (Rd : SRd) (Sj : SSJ) (T0 : STx) (T1 : STx) (Pg : SPg) (Pt : SPt) (Mk : SMk) (Lk : SLk) (Ck : SCk) (Jd : SJd) (Ld : SLd) (Pr : SPr) (rt : Nat) {r : Int32 × SRd} (h : m_Rd_readCharacter_j26 n x1 Rd = some r) : o_At p l e rm_Rd_readCharacter s m args below meth c (MQ below (o_Qx D o_cls (some (.int r.1)) (o_cw ad ca rt Sj T0 T1 r.2 Pg Pt Mk Lk Ck Jd Ld Pr) A) args s 0 0 A) o_cls D A 7 26 [] (o_cw ad ca rt Sj T0 T1 Rd Pg Pt Mk Lk Ck Jd Ld Pr) [(0, .ref (ad 23)), (1, .int x1)] := by
  unfold m_Rd_readCharacter_j26 at h
  intro H locs ls hP hS hl
  have C0 := C
  obtain ⟨hx, hb, -, -, -, hown, hts, hK, -, -⟩ := C0
  refine lv_aload_n hx hb d_Rd_readCharacter_26 rfl (lv_at hl 0 rfl) ?_
  refine lv_iload_n hx hb d_Rd_readCharacter_27 rfl (lv_at hl 1 rfl) ?_
  obtain ⟨q3, hq3, h⟩ := o_bd_some h
  refine o_V (st1 := [.int q3.1]) (w1 := (o_cw ad ca rt Sj T0 T1 q3.2 Pg Pt Mk Lk Ck Jd Ld Pr)) hE.1 C (c_Rd_refuse hE l x1 Rd Sj T0 T1 Pg Pt Mk Lk Ck Jd Ld Pr rt hq3) hP (hDD _ _ _ _ _ _ _ _ _ _ _ _ _) hS hl.1 rfl cw_23 k_3_48 k_3_50 k_s_4 k_1_3 k_3_51 hv_Rd_refuse rfl rfl ⟨(Nat.le_of_ble_eq_true rfl), (Nat.le_of_ble_eq_true rfl)⟩ rfl (Nat.le_of_ble_eq_true rfl) ⟨Nat.zero_le _, Nat.zero_le _⟩ rfl d_Rd_readCharacter_28 (fun H locs hP hS => ?_)
  refine lv_pop hx hb d_Rd_readCharacter_31 rfl ?_
  refine lv_iconst (v := (-1:Int32)) hx hb d_Rd_readCharacter_32 (by decide) ?_
  cases h
  exact o_ri (v := (-1:Int32)) C hP hS d_Rd_readCharacter_33
set_option maxHeartbeats 4000000 in
set_option maxRecDepth 100000 in
theorem w_Rd_readCharacter_b54 {E : (Nat → Prop) → State → Heap → Prop} {p : Program} {l : Launch} {e : Env} {s : State} {m : MethodId} {args : Array Value} {below : List Frame} {meth : Method} {c : Code} {D : va_G} {ad kd sd vd xd : Nat → Nat} {ca : Nat → ClassId} {A : Nat → Prop} {Q : State → Prop} (hE : o_EK E kd sd vd xd) (C : o_Cx E p s m args meth c D o_cls (o_tys ca) "SchemaJudge$Reader" b_Rd_readCharacter (some .int) 7 cc_Rd_readCharacter A) (hDD : ∀ (rt : Nat) (Sj : SSJ) (T0 : STx) (T1 : STx) (Rd : SRd) (Pg : SPg) (Pt : SPt) (Mk : SMk) (Lk : SLk) (Ck : SCk) (Jd : SJd) (Ld : SLd) (Pr : SPr), va_D A (o_cw ad ca rt Sj T0 T1 Rd Pg Pt Mk Lk Ck Jd Ld Pr)) (n : Nat) (u54_x1 : Int32) (u54_x3 : Int32) (u54_Sj : SSJ) (u54_T0 : STx) (u54_T1 : STx) (u54_Pg : SPg) (u54_Pt : SPt) (u54_Mk : SMk) (u54_Lk : SLk) (u54_Ck : SCk) (u54_Jd : SJd) (u54_Ld : SLd) (u54_Pr : SPr) (u54_rt : Nat) (z : Int32 × Int32 × SRd) (q : Nat × Int32 × Int32 × SRd) (h : m_Rd_readCharacter_b54 n u54_x1 u54_x3 z = some q) (h0 : q.1 = 0 → o_At p l e rm_Rd_readCharacter s m args below meth c Q o_cls D A 7 54 [] (o_cw ad ca u54_rt u54_Sj u54_T0 u54_T1 q.2.2.2 u54_Pg u54_Pt u54_Mk u54_Lk u54_Ck u54_Jd u54_Ld u54_Pr) [(0, .ref (ad 23)), (1, .int u54_x1), (3, .int u54_x3), (4, .int q.2.1), (5, .int q.2.2.1)]) (h1 : q.1 ≠ 0 → (if q.1 = 1 then o_At p l e rm_Rd_readCharacter s m args below meth c Q o_cls D A 7 74 [] (o_cw ad ca u54_rt u54_Sj u54_T0 u54_T1 q.2.2.2 u54_Pg u54_Pt u54_Mk u54_Lk u54_Ck u54_Jd u54_Ld u54_Pr) [(0, .ref (ad 23)), (1, .int u54_x1)] else o_At p l e rm_Rd_readCharacter s m args below meth c Q o_cls D A 7 111 [] (o_cw ad ca u54_rt u54_Sj u54_T0 u54_T1 q.2.2.2 u54_Pg u54_Pt u54_Mk u54_Lk u54_Ck u54_Jd u54_Ld u54_Pr) [(0, .ref (ad 23)), (1, .int u54_x1), (3, .int u54_x3), (4, .int q.2.1)])) : o_At p l e rm_Rd_readCharacter s m args below meth c Q o_cls D A 7 54 [] (o_cw ad ca u54_rt u54_Sj u54_T0 u54_T1 z.2.2 u54_Pg u54_Pt u54_Mk u54_Lk u54_Ck u54_Jd u54_Ld u54_Pr) [(0, .ref (ad 23)), (1, .int u54_x1), (3, .int u54_x3), (4, .int z.1), (5, .int z.2.1)] := by
  unfold m_Rd_readCharacter_b54 at h
  intro H locs ls hP hS hl
  have C0 := C
  obtain ⟨hx, hb, -, -, -, hown, hts, hK, -, -⟩ := C0
  refine lv_iload hx hb d_Rd_readCharacter_54 (lv_at hl 4 rfl) ?_
  refine lv_iload_n hx hb d_Rd_readCharacter_56 rfl (lv_at hl 2 rfl) ?_
  refine lv_icmp_ge (tgt := 111) hx hb d_Rd_readCharacter_57 (by decide) (fun c3 => ?_) (fun c3 => ?_)
  · replace h := o_tt c3 h
    cases h
    exact h1 (Nat.succ_ne_zero 1) _ _ _ hP hS (lv_sub hl [0, 1, 2, 3] rfl)
  · replace h := o_ff c3 h
    refine lv_aload_n hx hb d_Rd_readCharacter_60 rfl (lv_at hl 0 rfl) ?_
    obtain ⟨q5, hq5, h⟩ := o_bd_some h
    refine o_V (st1 := [.int q5]) (w1 := (o_cw ad ca u54_rt u54_Sj u54_T0 u54_T1 z.2.2 u54_Pg u54_Pt u54_Mk u54_Lk u54_Ck u54_Jd u54_Ld u54_Pr)) hE.1 C (c_Rd_peek hE l z.2.2 u54_Sj u54_T0 u54_T1 u54_Pg u54_Pt u54_Mk u54_Lk u54_Ck u54_Jd u54_Ld u54_Pr u54_rt hq5) hP (hDD _ _ _ _ _ _ _ _ _ _ _ _ _) hS hl.1 rfl cw_23 k_3_38 k_3_40 k_s_3 k_1_3 k_3_41 hv_Rd_peek rfl rfl ⟨(Nat.le_of_ble_eq_true rfl), (Nat.le_of_ble_eq_true rfl)⟩ rfl (Nat.le_of_ble_eq_true rfl) ⟨Nat.zero_le _, Nat.zero_le _⟩ rfl d_Rd_readCharacter_61 (fun H locs hP hS => ?_)
    refine lv_istore (lv' := [(6, .int q5), (0, .ref (ad 23)), (1, .int u54_x1), (3, .int u54_x3), (4, .int z.1), (5, .int z.2.1)]) hx hb d_Rd_readCharacter_64 hl (by decide) rfl (fun ls hl => ?_)
    refine lv_iload hx hb d_Rd_readCharacter_66 (lv_at hl 0 rfl) ?_
    obtain ⟨q6, hq6, h⟩ := o_bd_some h
    refine o_SN (st1 := [.int q6]) (w1 := (o_cw ad ca u54_rt u54_Sj u54_T0 u54_T1 z.2.2 u54_Pg u54_Pt u54_Mk u54_Lk u54_Ck u54_Jd u54_Ld u54_Pr)) hE.1 C (c_SJ_utf8Follows hE l q5 u54_Sj u54_T0 u54_T1 z.2.2 u54_Pg u54_Pt u54_Mk u54_Lk u54_Ck u54_Jd u54_Ld u54_Pr u54_rt hq6) hP (hDD _ _ _ _ _ _ _ _ _ _ _ _ _) hS hl.1 (hE.2.1 _ _ _ C.2.2.2.2.2.2.2.2.2 _ nw_9) k_3_174 k_1_1 k_3_175 hs_SJ_utf8Follows rfl rfl ⟨(Nat.le_of_ble_eq_true rfl), (Nat.le_of_ble_eq_true rfl)⟩ rfl (Nat.le_of_ble_eq_true rfl) ⟨Nat.zero_le _, Nat.zero_le _⟩ rfl d_Rd_readCharacter_68 (fun H locs hP hS => ?_)
    refine lv_if_ne (tgt := 82) hx hb d_Rd_readCharacter_71 (by decide) (fun c4 => ?_) (fun c4 => ?_)
    · replace h := o_ff c4 h
      refine lv_iload hx hb d_Rd_readCharacter_82 (lv_at hl 4 rfl) ?_
      refine lv_bipush (v := (6:Int32)) hx hb d_Rd_readCharacter_84 (by decide) ?_
      refine lv_ishl hx hb d_Rd_readCharacter_86 ?_
      refine lv_iload hx hb d_Rd_readCharacter_87 (lv_at hl 0 rfl) ?_
      refine lv_bipush (v := (63:Int32)) hx hb d_Rd_readCharacter_89 (by decide) ?_
      refine lv_iand hx hb d_Rd_readCharacter_91 ?_
      refine lv_ior hx hb d_Rd_readCharacter_92 ?_
      refine lv_topi (fun x4_93 ex4_93 => ?_)
      replace h := o_nm_at ex4_93 h
      refine lv_istore (lv' := [(4, .int x4_93), (6, .int q5), (0, .ref (ad 23)), (1, .int u54_x1), (3, .int u54_x3), (5, .int z.2.1)]) hx hb d_Rd_readCharacter_93 hl (by decide) rfl (fun ls hl => ?_)
      refine lv_aload_n hx hb d_Rd_readCharacter_95 rfl (lv_at hl 2 rfl) ?_
      refine lv_dup hx hb d_Rd_readCharacter_96 rfl ?_
      refine o_get (v := .int (Rd_position z.2.2)) C in_Rd hP 23 cw_23 rfl 3 (by decide) k_1_97 rfl rfl d_Rd_readCharacter_97 ?_
      refine lv_iconst (v := (1:Int32)) hx hb d_Rd_readCharacter_100 (by decide) ?_
      refine lv_iadd hx hb d_Rd_readCharacter_101 ?_
      refine o_put (v := .int ((Rd_position z.2.2) + (1:Int32))) (ty := .int) (w1 := (o_cw ad ca u54_rt u54_Sj u54_T0 u54_T1 (Rd_mk (Rd_words z.2.2) (Rd_wordCount z.2.2) ((Rd_position z.2.2) + (1:Int32)) (Rd_limit z.2.2) (Rd_wrongPlace z.2.2)) u54_Pg u54_Pt u54_Mk u54_Lk u54_Ck u54_Jd u54_Ld u54_Pr)) C in_Rd t_Rd t_Rd_ok n_Rd hP (hDD _ _ _ _ _ _ _ _ _ _ _ _ _) hS 23 cw_23 rfl 3 (by decide) k_1_97 rfl rfl (by decide +kernel) rfl rfl (Nat.le_of_ble_eq_true rfl) rfl d_Rd_readCharacter_102 (fun H locs hP hS => ?_)
      obtain ⟨x5_105, ex5_105⟩ : ∃ y : Int32, y = z.2.1 + (1:Int32) := ⟨_, rfl⟩
      replace h := o_nm_at ex5_105 h
      refine lv_iinc (v := x5_105) (lv' := [(5, .int x5_105), (4, .int x4_93), (6, .int q5), (0, .ref (ad 23)), (1, .int u54_x1), (3, .int u54_x3)]) hx hb d_Rd_readCharacter_105 hl (k := 5) rfl (by rw [ex5_105]; rfl) (by decide) rfl (fun ls hl => ?_)
      refine lv_goto (tgt := 54) hx hb d_Rd_readCharacter_108 (by decide) ?_
      cases h
      exact h0 rfl _ _ _ hP hS (lv_sub hl [3, 4, 5, 1, 0] rfl)
    · replace h := o_tt c4 h
      cases h
      exact h1 (Nat.succ_ne_zero 0) _ _ _ hP hS (lv_sub hl [1, 2] rfl)
set_option maxHeartbeats 4000000 in
set_option maxRecDepth 100000 in
theorem c_Rd_readCharacter {E : (Nat → Prop) → State → Heap → Prop} {D : va_G} {ad kd sd vd xd : Nat → Nat} {ca : Nat → ClassId} (hE : o_EK E kd sd vd xd) (l : Launch) (n : Nat)  (Rd : SRd) (Sj : SSJ) (T0 : STx) (T1 : STx) (Pg : SPg) (Pt : SPt) (Mk : SMk) (Lk : SLk) (Ck : SCk) (Jd : SJd) (Ld : SLd) (Pr : SPr) (rt : Nat) {r : Int32 × SRd} (h : m_Rd_readCharacter n Rd = some r) : o_Cn E l D o_cls (o_tys ca) y_Rd_readCharacter cc_Rd_readCharacter rm_Rd_readCharacter [.ref (ad 23)] (o_cw ad ca rt Sj T0 T1 Rd Pg Pt Mk Lk Ck Jd Ld Pr) (o_cw ad ca rt Sj T0 T1 r.2 Pg Pt Mk Lk Ck Jd Ld Pr) (some (.int r.1)) := by
  refine o_Cn_of (by decide) (Nat.le_of_ble_eq_true rfl) ?_
  intro p e s m below meth c A ls C hD hP hS hl
  have hDD : ∀ (rt : Nat) (Sj : SSJ) (T0 : STx) (T1 : STx) (Rd : SRd) (Pg : SPg) (Pt : SPt) (Mk : SMk) (Lk : SLk) (Ck : SCk) (Jd : SJd) (Ld : SLd) (Pr : SPr), va_D A (o_cw ad ca rt Sj T0 T1 Rd Pg Pt Mk Lk Ck Jd Ld Pr) := fun _ _ _ _ _ _ _ _ _ _ _ _ _ => o_D_map hD rfl
  have hl : lv_has ls 7 [(0, .ref (ad 23))] := hl
  unfold m_Rd_readCharacter at h
  have C0 := C
  obtain ⟨hx, hb, -, -, -, hown, hts, hK, -, -⟩ := C0
  refine lv_aload_n hx hb d_Rd_readCharacter_0 rfl (lv_at hl 0 rfl) ?_
  refine o_get (v := .int (Rd_position Rd)) C in_Rd hP 23 cw_23 rfl 3 (by decide) k_1_97 rfl rfl d_Rd_readCharacter_1 ?_
  refine lv_topi (fun x1_4 ex1_4 => ?_)
  replace h := o_nm_at ex1_4 h
  refine lv_istore_n (lv' := [(1, .int x1_4), (0, .ref (ad 23))]) hx hb d_Rd_readCharacter_4 rfl hl (by decide) rfl (fun ls hl => ?_)
  refine lv_aload_n hx hb d_Rd_readCharacter_5 rfl (lv_at hl 1 rfl) ?_
  obtain ⟨q1, hq1, h⟩ := o_bd_some h
  refine o_V (st1 := [.int q1]) (w1 := (o_cw ad ca rt Sj T0 T1 Rd Pg Pt Mk Lk Ck Jd Ld Pr)) hE.1 C (c_Rd_peek hE l Rd Sj T0 T1 Pg Pt Mk Lk Ck Jd Ld Pr rt hq1) hP (hDD _ _ _ _ _ _ _ _ _ _ _ _ _) hS hl.1 rfl cw_23 k_3_38 k_3_40 k_s_3 k_1_3 k_3_41 hv_Rd_peek rfl rfl ⟨(Nat.le_of_ble_eq_true rfl), (Nat.le_of_ble_eq_true rfl)⟩ rfl (Nat.le_of_ble_eq_true rfl) ⟨Nat.zero_le _, Nat.zero_le _⟩ rfl d_Rd_readCharacter_6 (fun H locs hP hS => ?_)
  refine lv_istore_n (lv' := [(2, .int q1), (1, .int x1_4), (0, .ref (ad 23))]) hx hb d_Rd_readCharacter_9 rfl hl (by decide) rfl (fun ls hl => ?_)
  refine lv_iload_n hx hb d_Rd_readCharacter_10 rfl (lv_at hl 0 rfl) ?_
  obtain ⟨q2, hq2, h⟩ := o_bd_some h
  refine o_SN (st1 := [.int q2]) (w1 := (o_cw ad ca rt Sj T0 T1 Rd Pg Pt Mk Lk Ck Jd Ld Pr)) hE.1 C (c_SJ_utf8Tail hE l q1 Sj T0 T1 Rd Pg Pt Mk Lk Ck Jd Ld Pr rt hq2) hP (hDD _ _ _ _ _ _ _ _ _ _ _ _ _) hS hl.1 (hE.2.1 _ _ _ C.2.2.2.2.2.2.2.2.2 _ nw_7) k_3_168 k_1_1 k_3_169 hs_SJ_utf8Tail rfl rfl ⟨(Nat.le_of_ble_eq_true rfl), (Nat.le_of_ble_eq_true rfl)⟩ rfl (Nat.le_of_ble_eq_true rfl) ⟨Nat.zero_le _, Nat.zero_le _⟩ rfl d_Rd_readCharacter_11 (fun H locs hP hS => ?_)
  refine lv_istore_n (lv' := [(3, .int q2), (2, .int q1), (1, .int x1_4), (0, .ref (ad 23))]) hx hb d_Rd_readCharacter_14 rfl hl (by decide) rfl (fun ls hl => ?_)
  refine lv_iload_n hx hb d_Rd_readCharacter_15 rfl (lv_at hl 1 rfl) ?_
  refine lv_bipush (v := (32:Int32)) hx hb d_Rd_readCharacter_16 (by decide) ?_
  refine lv_icmp_lt (tgt := 26) hx hb d_Rd_readCharacter_18 (by decide) (fun c1 => ?_) (fun c1 => ?_)
  · replace h := o_tt c1 h
    exact w_Rd_readCharacter_j26 hE C hDD n x1_4 Rd Sj T0 T1 Pg Pt Mk Lk Ck Jd Ld Pr rt h _ _ _ hP hS (lv_sub hl [3, 2] rfl)
  · replace h := o_ff c1 h
    refine lv_iload_n hx hb d_Rd_readCharacter_21 rfl (lv_at hl 0 rfl) ?_
    refine lv_iconst (v := (-1:Int32)) hx hb d_Rd_readCharacter_22 (by decide) ?_
    refine lv_icmp_ne (tgt := 34) hx hb d_Rd_readCharacter_23 (by decide) (fun c2 => ?_) (fun c2 => ?_)
    · replace h := o_ff c2 h
      refine lv_iload_n hx hb d_Rd_readCharacter_34 rfl (lv_at hl 1 rfl) ?_
      refine lv_iload_n hx hb d_Rd_readCharacter_35 rfl (lv_at hl 0 rfl) ?_
      obtain ⟨q4, hq4, h⟩ := o_bd_some h
      refine o_SN (st1 := [.int q4]) (w1 := (o_cw ad ca rt Sj T0 T1 Rd Pg Pt Mk Lk Ck Jd Ld Pr)) hE.1 C (c_SJ_utf8Head hE l q1 q2 Sj T0 T1 Rd Pg Pt Mk Lk Ck Jd Ld Pr rt hq4) hP (hDD _ _ _ _ _ _ _ _ _ _ _ _ _) hS hl.1 (hE.2.1 _ _ _ C.2.2.2.2.2.2.2.2.2 _ nw_8) k_3_171 k_1_1 k_3_172 hs_SJ_utf8Head rfl rfl ⟨(Nat.le_of_ble_eq_true rfl), (Nat.le_of_ble_eq_true rfl)⟩ rfl (Nat.le_of_ble_eq_true rfl) ⟨Nat.zero_le _, Nat.zero_le _⟩ rfl d_Rd_readCharacter_36 (fun H locs hP hS => ?_)
      refine lv_istore (lv' := [(4, .int q4), (3, .int q2), (2, .int q1), (1, .int x1_4), (0, .ref (ad 23))]) hx hb d_Rd_readCharacter_39 hl (by decide) rfl (fun ls hl => ?_)
      refine lv_aload_n hx hb d_Rd_readCharacter_41 rfl (lv_at hl 4 rfl) ?_
      refine lv_dup hx hb d_Rd_readCharacter_42 rfl ?_
      refine o_get (v := .int (Rd_position Rd)) C in_Rd hP 23 cw_23 rfl 3 (by decide) k_1_97 rfl rfl d_Rd_readCharacter_43 ?_
      refine lv_iconst (v := (1:Int32)) hx hb d_Rd_readCharacter_46 (by decide) ?_
      refine lv_iadd hx hb d_Rd_readCharacter_47 ?_
      refine o_put (v := .int ((Rd_position Rd) + (1:Int32))) (ty := .int) (w1 := (o_cw ad ca rt Sj T0 T1 (Rd_mk (Rd_words Rd) (Rd_wordCount Rd) ((Rd_position Rd) + (1:Int32)) (Rd_limit Rd) (Rd_wrongPlace Rd)) Pg Pt Mk Lk Ck Jd Ld Pr)) C in_Rd t_Rd t_Rd_ok n_Rd hP (hDD _ _ _ _ _ _ _ _ _ _ _ _ _) hS 23 cw_23 rfl 3 (by decide) k_1_97 rfl rfl (by decide +kernel) rfl rfl (Nat.le_of_ble_eq_true rfl) rfl d_Rd_readCharacter_48 (fun H locs hP hS => ?_)
      refine lv_iconst (v := (0:Int32)) hx hb d_Rd_readCharacter_51 (by decide) ?_
      refine lv_istore (lv' := [(5, .int (0:Int32)), (4, .int q4), (3, .int q2), (2, .int q1), (1, .int x1_4), (0, .ref (ad 23))]) hx hb d_Rd_readCharacter_52 hl (by decide) rfl (fun ls hl => ?_)
      obtain ⟨q7, hq7, h⟩ := o_bd_some h
      refine o_sim2 (AH := fun zz => o_At p l e rm_Rd_readCharacter s m _ below meth c _ o_cls D A 7 54 [] (o_cw ad ca rt Sj T0 T1 zz.2.2 Pg Pt Mk Lk Ck Jd Ld Pr) [(0, .ref (ad 23)), (1, .int x1_4), (3, .int q2), (4, .int zz.1), (5, .int zz.2.1)]) (AX := fun qq => if qq.1 = 1 then o_At p l e rm_Rd_readCharacter s m _ below meth c _ o_cls D A 7 74 [] (o_cw ad ca rt Sj T0 T1 qq.2.2.2 Pg Pt Mk Lk Ck Jd Ld Pr) [(0, .ref (ad 23)), (1, .int x1_4)] else o_At p l e rm_Rd_readCharacter s m _ below meth c _ o_cls D A 7 111 [] (o_cw ad ca rt Sj T0 T1 qq.2.2.2 Pg Pt Mk Lk Ck Jd Ld Pr) [(0, .ref (ad 23)), (1, .int x1_4), (3, .int q2), (4, .int qq.2.1)]) (fun zz qq h h0 h1 => w_Rd_readCharacter_b54 hE C hDD n x1_4 q2 Sj T0 T1 Pg Pt Mk Lk Ck Jd Ld Pr rt zz qq h h0 h1) n _ q7 hq7 ?_ _ _ _ hP hS (lv_sub hl [5, 4, 2, 1, 0] rfl)
      by_cases c6 : q7.1 = 1
      · replace h := o_tt c6 h
        refine o_ip c6 ?_
        intro H locs ls hP hS hl
        refine lv_aload_n hx hb d_Rd_readCharacter_74 rfl (lv_at hl 0 rfl) ?_
        refine lv_iload_n hx hb d_Rd_readCharacter_75 rfl (lv_at hl 1 rfl) ?_
        obtain ⟨q8, hq8, h⟩ := o_bd_some h
        refine o_V (st1 := [.int q8.1]) (w1 := (o_cw ad ca rt Sj T0 T1 q8.2 Pg Pt Mk Lk Ck Jd Ld Pr)) hE.1 C (c_Rd_refuse hE l x1_4 q7.2.2.2 Sj T0 T1 Pg Pt Mk Lk Ck Jd Ld Pr rt hq8) hP (hDD _ _ _ _ _ _ _ _ _ _ _ _ _) hS hl.1 rfl cw_23 k_3_48 k_3_50 k_s_4 k_1_3 k_3_51 hv_Rd_refuse rfl rfl ⟨(Nat.le_of_ble_eq_true rfl), (Nat.le_of_ble_eq_true rfl)⟩ rfl (Nat.le_of_ble_eq_true rfl) ⟨Nat.zero_le _, Nat.zero_le _⟩ rfl d_Rd_readCharacter_76 (fun H locs hP hS => ?_)
        refine lv_pop hx hb d_Rd_readCharacter_79 rfl ?_
        refine lv_iconst (v := (-1:Int32)) hx hb d_Rd_readCharacter_80 (by decide) ?_
        cases h
        exact o_ri (v := (-1:Int32)) C hP hS d_Rd_readCharacter_81
      replace h := o_ff c6 h
      refine o_in_ c6 ?_
      intro H locs ls hP hS hl
      refine lv_iload hx hb d_Rd_readCharacter_111 (lv_at hl 3 rfl) ?_
      refine lv_iload_n hx hb d_Rd_readCharacter_113 rfl (lv_at hl 2 rfl) ?_
      obtain ⟨q9, hq9, h⟩ := o_bd_some h
      refine o_SN (st1 := [.int q9]) (w1 := (o_cw ad ca rt Sj T0 T1 q7.2.2.2 Pg Pt Mk Lk Ck Jd Ld Pr)) hE.1 C (c_SJ_utf8Legal hE l q7.2.1 q2 Sj T0 T1 q7.2.2.2 Pg Pt Mk Lk Ck Jd Ld Pr rt hq9) hP (hDD _ _ _ _ _ _ _ _ _ _ _ _ _) hS hl.1 (hE.2.1 _ _ _ C.2.2.2.2.2.2.2.2.2 _ nw_10) k_3_177 k_1_1 k_3_178 hs_SJ_utf8Legal rfl rfl ⟨(Nat.le_of_ble_eq_true rfl), (Nat.le_of_ble_eq_true rfl)⟩ rfl (Nat.le_of_ble_eq_true rfl) ⟨Nat.zero_le _, Nat.zero_le _⟩ rfl d_Rd_readCharacter_114 (fun H locs hP hS => ?_)
      refine lv_if_ne (tgt := 128) hx hb d_Rd_readCharacter_117 (by decide) (fun c5 => ?_) (fun c5 => ?_)
      · replace h := o_ff c5 h
        refine lv_iload hx hb d_Rd_readCharacter_128 (lv_at hl 3 rfl) ?_
        cases h
        exact o_ri C hP hS d_Rd_readCharacter_130
      · replace h := o_tt c5 h
        refine lv_aload_n hx hb d_Rd_readCharacter_120 rfl (lv_at hl 0 rfl) ?_
        refine lv_iload_n hx hb d_Rd_readCharacter_121 rfl (lv_at hl 1 rfl) ?_
        obtain ⟨q10, hq10, h⟩ := o_bd_some h
        refine o_V (st1 := [.int q10.1]) (w1 := (o_cw ad ca rt Sj T0 T1 q10.2 Pg Pt Mk Lk Ck Jd Ld Pr)) hE.1 C (c_Rd_refuse hE l x1_4 q7.2.2.2 Sj T0 T1 Pg Pt Mk Lk Ck Jd Ld Pr rt hq10) hP (hDD _ _ _ _ _ _ _ _ _ _ _ _ _) hS hl.1 rfl cw_23 k_3_48 k_3_50 k_s_4 k_1_3 k_3_51 hv_Rd_refuse rfl rfl ⟨(Nat.le_of_ble_eq_true rfl), (Nat.le_of_ble_eq_true rfl)⟩ rfl (Nat.le_of_ble_eq_true rfl) ⟨Nat.zero_le _, Nat.zero_le _⟩ rfl d_Rd_readCharacter_122 (fun H locs hP hS => ?_)
        refine lv_pop hx hb d_Rd_readCharacter_125 rfl ?_
        refine lv_iconst (v := (-1:Int32)) hx hb d_Rd_readCharacter_126 (by decide) ?_
        cases h
        exact o_ri (v := (-1:Int32)) C hP hS d_Rd_readCharacter_127
    · replace h := o_tt c2 h
      exact w_Rd_readCharacter_j26 hE C hDD n x1_4 Rd Sj T0 T1 Pg Pt Mk Lk Ck Jd Ld Pr rt h _ _ _ hP hS (lv_sub hl [3, 2] rfl)
set_option maxHeartbeats 4000000 in
set_option maxRecDepth 100000 in
theorem w_Mk_clear_b2 {E : (Nat → Prop) → State → Heap → Prop} {p : Program} {l : Launch} {e : Env} {s : State} {m : MethodId} {args : Array Value} {below : List Frame} {meth : Method} {c : Code} {D : va_G} {ad kd sd vd xd : Nat → Nat} {ca : Nat → ClassId} {A : Nat → Prop} {Q : State → Prop} (hE : o_EK E kd sd vd xd) (C : o_Cx E p s m args meth c D o_cls (o_tys ca) "SchemaJudge$Marks" b_Mk_clear none 2 cc_Mk_clear A) (hDD : ∀ (rt : Nat) (Sj : SSJ) (T0 : STx) (T1 : STx) (Rd : SRd) (Pg : SPg) (Pt : SPt) (Mk : SMk) (Lk : SLk) (Ck : SCk) (Jd : SJd) (Ld : SLd) (Pr : SPr), va_D A (o_cw ad ca rt Sj T0 T1 Rd Pg Pt Mk Lk Ck Jd Ld Pr)) (n : Nat) (u2_Sj : SSJ) (u2_T0 : STx) (u2_T1 : STx) (u2_Rd : SRd) (u2_Pg : SPg) (u2_Pt : SPt) (u2_Lk : SLk) (u2_Ck : SCk) (u2_Jd : SJd) (u2_Ld : SLd) (u2_Pr : SPr) (u2_rt : Nat) (z : Int32 × SMk) (q : Nat × Int32 × SMk) (h : m_Mk_clear_b2 n z = some q) (h0 : q.1 = 0 → o_At p l e rm_Mk_clear s m args below meth c Q o_cls D A 2 2 [] (o_cw ad ca u2_rt u2_Sj u2_T0 u2_T1 u2_Rd u2_Pg u2_Pt q.2.2 u2_Lk u2_Ck u2_Jd u2_Ld u2_Pr) [(0, .ref (ad 39)), (1, .int q.2.1)]) (h1 : q.1 ≠ 0 → (o_At p l e rm_Mk_clear s m args below meth c Q o_cls D A 2 36 [] (o_cw ad ca u2_rt u2_Sj u2_T0 u2_T1 u2_Rd u2_Pg u2_Pt q.2.2 u2_Lk u2_Ck u2_Jd u2_Ld u2_Pr) [])) : o_At p l e rm_Mk_clear s m args below meth c Q o_cls D A 2 2 [] (o_cw ad ca u2_rt u2_Sj u2_T0 u2_T1 u2_Rd u2_Pg u2_Pt z.2 u2_Lk u2_Ck u2_Jd u2_Ld u2_Pr) [(0, .ref (ad 39)), (1, .int z.1)] := by
  unfold m_Mk_clear_b2 at h
  intro H locs ls hP hS hl
  have C0 := C
  obtain ⟨hx, hb, -, -, -, hown, hts, hK, -, -⟩ := C0
  refine lv_iload_n hx hb d_Mk_clear_2 rfl (lv_at hl 1 rfl) ?_
  refine lv_sipush (v := (1000:Int32)) hx hb d_Mk_clear_3 (by decide) ?_
  refine lv_icmp_ge (tgt := 36) hx hb d_Mk_clear_6 (by decide) (fun c1 => ?_) (fun c1 => ?_)
  · replace h := o_tt c1 h
    cases h
    exact h1 (Nat.succ_ne_zero 0) _ _ _ hP hS (lv_sub hl [] rfl)
  · replace h := o_ff c1 h
    refine lv_aload_n hx hb d_Mk_clear_9 rfl (lv_at hl 0 rfl) ?_
    refine o_get (v := .ref (ad 40)) C in_Mk hP 39 cw_39 rfl 1 (by decide) k_1_207 rfl rfl d_Mk_clear_10 ?_
    refine lv_iload_n hx hb d_Mk_clear_13 rfl (lv_at hl 1 rfl) ?_
    refine lv_iconst (v := (0:Int32)) hx hb d_Mk_clear_14 (by decide) ?_
    obtain ⟨g2, h⟩ := o_gd_some h
    refine o_iast (f := (Mk_keywords z.2)) (w1 := (o_cw ad ca u2_rt u2_Sj u2_T0 u2_T1 u2_Rd u2_Pg u2_Pt (Mk_mk (upd (Mk_keywords z.2) z.1.toNatClampNeg (0:Int32)) (Mk_schemas z.2) (Mk_targets z.2)) u2_Lk u2_Ck u2_Jd u2_Ld u2_Pr)) C hP (hDD _ _ _ _ _ _ _ _ _ _ _ _ _) hS 40 33 cw_40 rfl g2 rfl d_Mk_clear_15 (fun H locs hP hS => ?_)
    refine lv_aload_n hx hb d_Mk_clear_16 rfl (lv_at hl 0 rfl) ?_
    refine o_get (v := .ref (ad 41)) C in_Mk hP 39 cw_39 rfl 2 (by decide) k_1_208 rfl rfl d_Mk_clear_17 ?_
    refine lv_iload_n hx hb d_Mk_clear_20 rfl (lv_at hl 1 rfl) ?_
    refine lv_iconst (v := (0:Int32)) hx hb d_Mk_clear_21 (by decide) ?_
    obtain ⟨g3, h⟩ := o_gd_some h
    refine o_zast (f := (Mk_schemas z.2)) (w1 := (o_cw ad ca u2_rt u2_Sj u2_T0 u2_T1 u2_Rd u2_Pg u2_Pt (Mk_mk (upd (Mk_keywords z.2) z.1.toNatClampNeg (0:Int32)) (upd (Mk_schemas z.2) z.1.toNatClampNeg (vp_nar .boolean (0:Int32))) (Mk_targets z.2)) u2_Lk u2_Ck u2_Jd u2_Ld u2_Pr)) C hP (hDD _ _ _ _ _ _ _ _ _ _ _ _ _) hS 41 34 cw_41 rfl g3 rfl d_Mk_clear_22 (fun H locs hP hS => ?_)
    refine lv_aload_n hx hb d_Mk_clear_23 rfl (lv_at hl 0 rfl) ?_
    refine o_get (v := .ref (ad 42)) C in_Mk hP 39 cw_39 rfl 3 (by decide) k_1_209 rfl rfl d_Mk_clear_24 ?_
    refine lv_iload_n hx hb d_Mk_clear_27 rfl (lv_at hl 1 rfl) ?_
    refine lv_iconst (v := (-1:Int32)) hx hb d_Mk_clear_28 (by decide) ?_
    obtain ⟨g4, h⟩ := o_gd_some h
    refine o_iast (f := (Mk_targets z.2)) (w1 := (o_cw ad ca u2_rt u2_Sj u2_T0 u2_T1 u2_Rd u2_Pg u2_Pt (Mk_mk (upd (Mk_keywords z.2) z.1.toNatClampNeg (0:Int32)) (upd (Mk_schemas z.2) z.1.toNatClampNeg (vp_nar .boolean (0:Int32))) (upd (Mk_targets z.2) z.1.toNatClampNeg (-1:Int32))) u2_Lk u2_Ck u2_Jd u2_Ld u2_Pr)) C hP (hDD _ _ _ _ _ _ _ _ _ _ _ _ _) hS 42 35 cw_42 rfl g4 rfl d_Mk_clear_29 (fun H locs hP hS => ?_)
    obtain ⟨x1_30, ex1_30⟩ : ∃ y : Int32, y = z.1 + (1:Int32) := ⟨_, rfl⟩
    replace h := o_nm_at ex1_30 h
    refine lv_iinc (v := x1_30) (lv' := [(1, .int x1_30), (0, .ref (ad 39))]) hx hb d_Mk_clear_30 hl (k := 1) rfl (by rw [ex1_30]; rfl) (by decide) rfl (fun ls hl => ?_)
    refine lv_goto (tgt := 2) hx hb d_Mk_clear_33 (by decide) ?_
    cases h
    exact h0 rfl _ _ _ hP hS (lv_sub hl [1, 0] rfl)
set_option maxHeartbeats 4000000 in
set_option maxRecDepth 100000 in
theorem c_Mk_clear {E : (Nat → Prop) → State → Heap → Prop} {D : va_G} {ad kd sd vd xd : Nat → Nat} {ca : Nat → ClassId} (hE : o_EK E kd sd vd xd) (l : Launch) (n : Nat)  (Mk : SMk) (Sj : SSJ) (T0 : STx) (T1 : STx) (Rd : SRd) (Pg : SPg) (Pt : SPt) (Lk : SLk) (Ck : SCk) (Jd : SJd) (Ld : SLd) (Pr : SPr) (rt : Nat) {r : SMk} (h : m_Mk_clear n Mk = some r) : o_Cn E l D o_cls (o_tys ca) y_Mk_clear cc_Mk_clear rm_Mk_clear [.ref (ad 39)] (o_cw ad ca rt Sj T0 T1 Rd Pg Pt Mk Lk Ck Jd Ld Pr) (o_cw ad ca rt Sj T0 T1 Rd Pg Pt r Lk Ck Jd Ld Pr) none := by
  refine o_Cn_of (by decide) (Nat.le_of_ble_eq_true rfl) ?_
  intro p e s m below meth c A ls C hD hP hS hl
  have hDD : ∀ (rt : Nat) (Sj : SSJ) (T0 : STx) (T1 : STx) (Rd : SRd) (Pg : SPg) (Pt : SPt) (Mk : SMk) (Lk : SLk) (Ck : SCk) (Jd : SJd) (Ld : SLd) (Pr : SPr), va_D A (o_cw ad ca rt Sj T0 T1 Rd Pg Pt Mk Lk Ck Jd Ld Pr) := fun _ _ _ _ _ _ _ _ _ _ _ _ _ => o_D_map hD rfl
  have hl : lv_has ls 2 [(0, .ref (ad 39))] := hl
  unfold m_Mk_clear at h
  have C0 := C
  obtain ⟨hx, hb, -, -, -, hown, hts, hK, -, -⟩ := C0
  refine lv_iconst (v := (0:Int32)) hx hb d_Mk_clear_0 (by decide) ?_
  refine lv_istore_n (lv' := [(1, .int (0:Int32)), (0, .ref (ad 39))]) hx hb d_Mk_clear_1 rfl hl (by decide) rfl (fun ls hl => ?_)
  obtain ⟨q1, hq1, h⟩ := o_bd_some h
  refine o_sim2 (AH := fun zz => o_At p l e rm_Mk_clear s m _ below meth c _ o_cls D A 2 2 [] (o_cw ad ca rt Sj T0 T1 Rd Pg Pt zz.2 Lk Ck Jd Ld Pr) [(0, .ref (ad 39)), (1, .int zz.1)]) (AX := fun qq => o_At p l e rm_Mk_clear s m _ below meth c _ o_cls D A 2 36 [] (o_cw ad ca rt Sj T0 T1 Rd Pg Pt qq.2.2 Lk Ck Jd Ld Pr) []) (fun zz qq h h0 h1 => w_Mk_clear_b2 hE C hDD n Sj T0 T1 Rd Pg Pt Lk Ck Jd Ld Pr rt zz qq h h0 h1) n _ q1 hq1 ?_ _ _ _ hP hS (lv_sub hl [1, 0] rfl)
  intro H locs ls hP hS hl
  cases h
  exact o_rv C hP hS d_Mk_clear_36
set_option maxHeartbeats 4000000 in
set_option maxRecDepth 100000 in
theorem c_Tx_kind_0 {E : (Nat → Prop) → State → Heap → Prop} {D : va_G} {ad kd sd vd xd : Nat → Nat} {ca : Nat → ClassId} (hE : o_EK E kd sd vd xd) (l : Launch) (x1 : Int32) (a0 : STx) (Sj : SSJ) (T1 : STx) (Rd : SRd) (Pg : SPg) (Pt : SPt) (Mk : SMk) (Lk : SLk) (Ck : SCk) (Jd : SJd) (Ld : SLd) (Pr : SPr) (rt : Nat) {r : Int32} (h : m_Tx_kind x1 a0 = some r) : o_Cn E l D o_cls (o_tys ca) y_Tx_kind cc_Tx_kind rm_Tx_kind [.ref (ad 1), .int x1] (o_cw ad ca rt Sj a0 T1 Rd Pg Pt Mk Lk Ck Jd Ld Pr) (o_cw ad ca rt Sj a0 T1 Rd Pg Pt Mk Lk Ck Jd Ld Pr) (some (.int r)) := by
  refine o_Cn_of (by decide) (Nat.le_of_ble_eq_true rfl) ?_
  intro p e s m below meth c A ls C hD hP hS hl
  have hDD : ∀ (rt : Nat) (Sj : SSJ) (T0 : STx) (T1 : STx) (Rd : SRd) (Pg : SPg) (Pt : SPt) (Mk : SMk) (Lk : SLk) (Ck : SCk) (Jd : SJd) (Ld : SLd) (Pr : SPr), va_D A (o_cw ad ca rt Sj T0 T1 Rd Pg Pt Mk Lk Ck Jd Ld Pr) := fun _ _ _ _ _ _ _ _ _ _ _ _ _ => o_D_map hD rfl
  have hl : lv_has ls 2 [(0, .ref (ad 1)), (1, .int x1)] := hl
  unfold m_Tx_kind at h
  have C0 := C
  obtain ⟨hx, hb, -, -, -, hown, hts, hK, -, -⟩ := C0
  refine lv_iload_n hx hb d_Tx_kind_0 rfl (lv_at hl 1 rfl) ?_
  refine lv_if_lt (tgt := 21) hx hb d_Tx_kind_1 (by decide) (fun c1 => ?_) (fun c1 => ?_)
  · replace h := o_tt c1 h
    refine lv_iconst (v := (-1:Int32)) hx hb d_Tx_kind_21 (by decide) ?_
    cases h
    exact o_ri (v := (-1:Int32)) C hP hS d_Tx_kind_22
  · replace h := o_ff c1 h
    refine lv_iload_n hx hb d_Tx_kind_4 rfl (lv_at hl 1 rfl) ?_
    refine lv_aload_n hx hb d_Tx_kind_5 rfl (lv_at hl 0 rfl) ?_
    refine o_get (v := .int (Tx_total a0)) C in_Tx hP 1 cw_1 rfl 10 (by decide) k_1_56 rfl rfl d_Tx_kind_6 ?_
    refine lv_icmp_ge (tgt := 21) hx hb d_Tx_kind_9 (by decide) (fun c2 => ?_) (fun c2 => ?_)
    · replace h := o_tt c2 h
      refine lv_iconst (v := (-1:Int32)) hx hb d_Tx_kind_21 (by decide) ?_
      cases h
      exact o_ri (v := (-1:Int32)) C hP hS d_Tx_kind_22
    · replace h := o_ff c2 h
      refine lv_aload_n hx hb d_Tx_kind_12 rfl (lv_at hl 0 rfl) ?_
      refine o_get (v := .ref (ad 2)) C in_Tx hP 1 cw_1 rfl 0 (by decide) k_1_46 rfl rfl d_Tx_kind_13 ?_
      refine lv_iload_n hx hb d_Tx_kind_16 rfl (lv_at hl 1 rfl) ?_
      obtain ⟨g3, h⟩ := o_gd_some h
      refine o_iald (f := (Tx_kinds a0)) C hP 2 0 cw_2 rfl g3 d_Tx_kind_17 ?_
      refine lv_goto (tgt := 22) hx hb d_Tx_kind_18 (by decide) ?_
      cases h
      exact o_ri (v := ((Tx_kinds a0) x1.toNatClampNeg)) C hP hS d_Tx_kind_22
set_option maxHeartbeats 4000000 in
set_option maxRecDepth 100000 in
theorem w_Mk_markSchema_j30 {E : (Nat → Prop) → State → Heap → Prop} {p : Program} {l : Launch} {e : Env} {s : State} {m : MethodId} {args : Array Value} {below : List Frame} {meth : Method} {c : Code} {D : va_G} {ad kd sd vd xd : Nat → Nat} {ca : Nat → ClassId} {A : Nat → Prop} (hE : o_EK E kd sd vd xd) (C : o_Cx E p s m args meth c D o_cls (o_tys ca) "SchemaJudge$Marks" b_Mk_markSchema (some .boolean) 4 cc_Mk_markSchema A) (hDD : ∀ (rt : Nat) (Sj : SSJ) (T0 : STx) (T1 : STx) (Rd : SRd) (Pg : SPg) (Pt : SPt) (Mk : SMk) (Lk : SLk) (Ck : SCk) (Jd : SJd) (Ld : SLd) (Pr : SPr), va_D A (o_cw ad ca rt Sj T0 T1 Rd Pg Pt Mk Lk Ck Jd Ld Pr)) (x1 : Int32) (y0 : Int32) (T0 : STx) (Mk : SMk) (Sj : SSJ) (T1 : STx) (Rd : SRd) (Pg : SPg) (Pt : SPt) (Lk : SLk) (Ck : SCk) (Jd : SJd) (Ld : SLd) (Pr : SPr) (rt : Nat) {r : Int32 × SMk} (h : m_Mk_markSchema_j30 x1 y0 T0 Mk = some r) : o_At p l e rm_Mk_markSchema s m args below meth c (MQ below (o_Qx D o_cls (some (.int r.1)) (o_cw ad ca rt Sj T0 T1 Rd Pg Pt r.2 Lk Ck Jd Ld Pr) A) args s 0 0 A) o_cls D A 4 30 [.int y0] (o_cw ad ca rt Sj T0 T1 Rd Pg Pt Mk Lk Ck Jd Ld Pr) [(0, .ref (ad 39)), (1, .int x1)] := by
  unfold m_Mk_markSchema_j30 at h
  intro H locs ls hP hS hl
  have C0 := C
  obtain ⟨hx, hb, -, -, -, hown, hts, hK, -, -⟩ := C0
  refine lv_istore_n (lv' := [(3, .int y0), (0, .ref (ad 39)), (1, .int x1)]) hx hb d_Mk_markSchema_30 rfl hl (by decide) rfl (fun ls hl => ?_)
  refine lv_iload_n hx hb d_Mk_markSchema_31 rfl (lv_at hl 0 rfl) ?_
  refine lv_if_eq (tgt := 53) hx hb d_Mk_markSchema_32 (by decide) (fun c2 => ?_) (fun c2 => ?_)
  · replace h := o_tt c2 h
    refine lv_iload_n hx hb d_Mk_markSchema_53 rfl (lv_at hl 0 rfl) ?_
    obtain ⟨g3, h⟩ := o_gd_some h
    cases h
    exact o_rz C (o_zb_nar g3) hP hS d_Mk_markSchema_54
  · replace h := o_ff c2 h
    refine lv_iload_n hx hb d_Mk_markSchema_35 rfl (lv_at hl 2 rfl) ?_
    refine lv_if_lt (tgt := 53) hx hb d_Mk_markSchema_36 (by decide) (fun c4 => ?_) (fun c4 => ?_)
    · replace h := o_tt c4 h
      refine lv_iload_n hx hb d_Mk_markSchema_53 rfl (lv_at hl 0 rfl) ?_
      obtain ⟨g5, h⟩ := o_gd_some h
      cases h
      exact o_rz C (o_zb_nar g5) hP hS d_Mk_markSchema_54
    · replace h := o_ff c4 h
      refine lv_iload_n hx hb d_Mk_markSchema_39 rfl (lv_at hl 2 rfl) ?_
      refine lv_sipush (v := (1000:Int32)) hx hb d_Mk_markSchema_40 (by decide) ?_
      refine lv_icmp_ge (tgt := 53) hx hb d_Mk_markSchema_43 (by decide) (fun c6 => ?_) (fun c6 => ?_)
      · replace h := o_tt c6 h
        refine lv_iload_n hx hb d_Mk_markSchema_53 rfl (lv_at hl 0 rfl) ?_
        obtain ⟨g7, h⟩ := o_gd_some h
        cases h
        exact o_rz C (o_zb_nar g7) hP hS d_Mk_markSchema_54
      · replace h := o_ff c6 h
        refine lv_aload_n hx hb d_Mk_markSchema_46 rfl (lv_at hl 1 rfl) ?_
        refine o_get (v := .ref (ad 41)) C in_Mk hP 39 cw_39 rfl 2 (by decide) k_1_208 rfl rfl d_Mk_markSchema_47 ?_
        refine lv_iload_n hx hb d_Mk_markSchema_50 rfl (lv_at hl 2 rfl) ?_
        refine lv_iconst (v := (1:Int32)) hx hb d_Mk_markSchema_51 (by decide) ?_
        obtain ⟨g8, h⟩ := o_gd_some h
        refine o_zast (f := (Mk_schemas Mk)) (w1 := (o_cw ad ca rt Sj T0 T1 Rd Pg Pt (Mk_mk (Mk_keywords Mk) (upd (Mk_schemas Mk) x1.toNatClampNeg (vp_nar .boolean (1:Int32))) (Mk_targets Mk)) Lk Ck Jd Ld Pr)) C hP (hDD _ _ _ _ _ _ _ _ _ _ _ _ _) hS 41 34 cw_41 rfl g8 rfl d_Mk_markSchema_52 (fun H locs hP hS => ?_)
        refine lv_iload_n hx hb d_Mk_markSchema_53 rfl (lv_at hl 0 rfl) ?_
        obtain ⟨g9, h⟩ := o_gd_some h
        cases h
        exact o_rz C (o_zb_nar g9) hP hS d_Mk_markSchema_54
set_option maxHeartbeats 4000000 in
set_option maxRecDepth 100000 in
theorem c_Mk_markSchema {E : (Nat → Prop) → State → Heap → Prop} {D : va_G} {ad kd sd vd xd : Nat → Nat} {ca : Nat → ClassId} (hE : o_EK E kd sd vd xd) (l : Launch) (x1 : Int32) (T0 : STx) (Mk : SMk) (Sj : SSJ) (T1 : STx) (Rd : SRd) (Pg : SPg) (Pt : SPt) (Lk : SLk) (Ck : SCk) (Jd : SJd) (Ld : SLd) (Pr : SPr) (rt : Nat) {r : Int32 × SMk} (h : m_Mk_markSchema x1 T0 Mk = some r) : o_Cn E l D o_cls (o_tys ca) y_Mk_markSchema cc_Mk_markSchema rm_Mk_markSchema [.ref (ad 39), .int x1] (o_cw ad ca rt Sj T0 T1 Rd Pg Pt Mk Lk Ck Jd Ld Pr) (o_cw ad ca rt Sj T0 T1 Rd Pg Pt r.2 Lk Ck Jd Ld Pr) (some (.int r.1)) := by
  refine o_Cn_of (by decide) (Nat.le_of_ble_eq_true rfl) ?_
  intro p e s m below meth c A ls C hD hP hS hl
  have hDD : ∀ (rt : Nat) (Sj : SSJ) (T0 : STx) (T1 : STx) (Rd : SRd) (Pg : SPg) (Pt : SPt) (Mk : SMk) (Lk : SLk) (Ck : SCk) (Jd : SJd) (Ld : SLd) (Pr : SPr), va_D A (o_cw ad ca rt Sj T0 T1 Rd Pg Pt Mk Lk Ck Jd Ld Pr) := fun _ _ _ _ _ _ _ _ _ _ _ _ _ => o_D_map hD rfl
  have hl : lv_has ls 4 [(0, .ref (ad 39)), (1, .int x1)] := hl
  unfold m_Mk_markSchema at h
  have C0 := C
  obtain ⟨hx, hb, -, -, -, hown, hts, hK, -, -⟩ := C0
  refine lv_aload_n hx hb d_Mk_markSchema_0 rfl (lv_at hl 0 rfl) ?_
  refine o_get (v := .ref (ad 1)) C in_Mk hP 39 cw_39 rfl 0 (by decide) k_1_206 rfl rfl d_Mk_markSchema_1 ?_
  refine lv_iload_n hx hb d_Mk_markSchema_4 rfl (lv_at hl 1 rfl) ?_
  obtain ⟨q1, hq1, h⟩ := o_bd_some h
  refine o_V (st1 := [.int q1]) (w1 := (o_cw ad ca rt Sj T0 T1 Rd Pg Pt Mk Lk Ck Jd Ld Pr)) hE.1 C (c_Tx_kind_0 hE l x1 T0 Sj T1 Rd Pg Pt Mk Lk Ck Jd Ld Pr rt hq1) hP (hDD _ _ _ _ _ _ _ _ _ _ _ _ _) hS hl.1 rfl cw_1 k_4_49 k_4_50 k_4_51 k_1_2 k_4_52 hv_Tx_kind rfl rfl ⟨(Nat.le_of_ble_eq_true rfl), (Nat.le_of_ble_eq_true rfl)⟩ rfl (Nat.le_of_ble_eq_true rfl) ⟨Nat.zero_le _, Nat.zero_le _⟩ rfl d_Mk_markSchema_5 (fun H locs hP hS => ?_)
  refine lv_istore_n (lv' := [(2, .int q1), (0, .ref (ad 39)), (1, .int x1)]) hx hb d_Mk_markSchema_8 rfl hl (by decide) rfl (fun ls hl => ?_)
  refine lv_iload_n hx hb d_Mk_markSchema_9 rfl (lv_at hl 0 rfl) ?_
  refine lv_bipush (v := (6:Int32)) hx hb d_Mk_markSchema_10 (by decide) ?_
  refine lv_icmp_eq (tgt := 25) hx hb d_Mk_markSchema_12 (by decide) (fun c1 => ?_) (fun c1 => ?_)
  · replace h := o_tt c1 h
    refine lv_iconst (v := (1:Int32)) hx hb d_Mk_markSchema_25 (by decide) ?_
    refine lv_goto (tgt := 30) hx hb d_Mk_markSchema_26 (by decide) ?_
    exact w_Mk_markSchema_j30 hE C hDD x1 (1:Int32) T0 Mk Sj T1 Rd Pg Pt Lk Ck Jd Ld Pr rt h _ _ _ hP hS (lv_sub hl [1, 2] rfl)
  · replace h := o_ff c1 h
    refine lv_iload_n hx hb d_Mk_markSchema_15 rfl (lv_at hl 0 rfl) ?_
    refine lv_iconst (v := (2:Int32)) hx hb d_Mk_markSchema_16 (by decide) ?_
    refine lv_icmp_eq (tgt := 25) hx hb d_Mk_markSchema_17 (by decide) (fun c10 => ?_) (fun c10 => ?_)
    · replace h := o_tt c10 h
      refine lv_iconst (v := (1:Int32)) hx hb d_Mk_markSchema_25 (by decide) ?_
      refine lv_goto (tgt := 30) hx hb d_Mk_markSchema_26 (by decide) ?_
      exact w_Mk_markSchema_j30 hE C hDD x1 (1:Int32) T0 Mk Sj T1 Rd Pg Pt Lk Ck Jd Ld Pr rt h _ _ _ hP hS (lv_sub hl [1, 2] rfl)
    · replace h := o_ff c10 h
      refine lv_iload_n hx hb d_Mk_markSchema_20 rfl (lv_at hl 0 rfl) ?_
      refine lv_iconst (v := (1:Int32)) hx hb d_Mk_markSchema_21 (by decide) ?_
      refine lv_icmp_ne (tgt := 29) hx hb d_Mk_markSchema_22 (by decide) (fun c11 => ?_) (fun c11 => ?_)
      · replace h := o_ff c11 h
        refine lv_iconst (v := (0:Int32)) hx hb d_Mk_markSchema_29 (by decide) ?_
        exact w_Mk_markSchema_j30 hE C hDD x1 (0:Int32) T0 Mk Sj T1 Rd Pg Pt Lk Ck Jd Ld Pr rt h _ _ _ hP hS (lv_sub hl [1, 2] rfl)
      · replace h := o_tt c11 h
        refine lv_iconst (v := (1:Int32)) hx hb d_Mk_markSchema_25 (by decide) ?_
        refine lv_goto (tgt := 30) hx hb d_Mk_markSchema_26 (by decide) ?_
        exact w_Mk_markSchema_j30 hE C hDD x1 (1:Int32) T0 Mk Sj T1 Rd Pg Pt Lk Ck Jd Ld Pr rt h _ _ _ hP hS (lv_sub hl [1, 2] rfl)
set_option maxHeartbeats 4000000 in
set_option maxRecDepth 100000 in
theorem w_Ck_report_j31 {E : (Nat → Prop) → State → Heap → Prop} {p : Program} {l : Launch} {e : Env} {s : State} {m : MethodId} {args : Array Value} {below : List Frame} {meth : Method} {c : Code} {D : va_G} {ad kd sd vd xd : Nat → Nat} {ca : Nat → ClassId} {A : Nat → Prop} (hE : o_EK E kd sd vd xd) (C : o_Cx E p s m args meth c D o_cls (o_tys ca) "SchemaJudge$Checker" b_Ck_report none 3 cc_Ck_report A) (hDD : ∀ (rt : Nat) (Sj : SSJ) (T0 : STx) (T1 : STx) (Rd : SRd) (Pg : SPg) (Pt : SPt) (Mk : SMk) (Lk : SLk) (Ck : SCk) (Jd : SJd) (Ld : SLd) (Pr : SPr), va_D A (o_cw ad ca rt Sj T0 T1 Rd Pg Pt Mk Lk Ck Jd Ld Pr)) (x1 : Int32) (x2 : Int32) (Ck : SCk) (Sj : SSJ) (T0 : STx) (T1 : STx) (Rd : SRd) (Pg : SPg) (Pt : SPt) (Mk : SMk) (Lk : SLk) (Jd : SJd) (Ld : SLd) (Pr : SPr) (rt : Nat) {r : SCk} (h : m_Ck_report_j31 x1 x2 Ck = some r) : o_At p l e rm_Ck_report s m args below meth c (MQ below (o_Qx D o_cls none (o_cw ad ca rt Sj T0 T1 Rd Pg Pt Mk Lk r Jd Ld Pr) A) args s 0 0 A) o_cls D A 3 31 [] (o_cw ad ca rt Sj T0 T1 Rd Pg Pt Mk Lk Ck Jd Ld Pr) [(0, .ref (ad 45)), (1, .int x1), (2, .int x2)] := by
  unfold m_Ck_report_j31 at h
  intro H locs ls hP hS hl
  have C0 := C
  obtain ⟨hx, hb, -, -, -, hown, hts, hK, -, -⟩ := C0
  refine lv_aload_n hx hb d_Ck_report_31 rfl (lv_at hl 0 rfl) ?_
  refine lv_iload_n hx hb d_Ck_report_32 rfl (lv_at hl 1 rfl) ?_
  refine o_put (v := .int x1) (ty := .int) (w1 := (o_cw ad ca rt Sj T0 T1 Rd Pg Pt Mk Lk (Ck_mk (Ck_aimedAt Ck) (Ck_reached Ck) (Ck_reachedFrom Ck) (Ck_reachedCount Ck) x1 (Ck_foundAt Ck)) Jd Ld Pr)) C in_Ck t_Ck t_Ck_ok n_Ck hP (hDD _ _ _ _ _ _ _ _ _ _ _ _ _) hS 45 cw_45 rfl 8 (by decide) k_2_15 rfl rfl (by decide +kernel) rfl rfl (Nat.le_of_ble_eq_true rfl) rfl d_Ck_report_33 (fun H locs hP hS => ?_)
  refine lv_aload_n hx hb d_Ck_report_36 rfl (lv_at hl 0 rfl) ?_
  refine lv_iload_n hx hb d_Ck_report_37 rfl (lv_at hl 2 rfl) ?_
  refine o_put (v := .int x2) (ty := .int) (w1 := (o_cw ad ca rt Sj T0 T1 Rd Pg Pt Mk Lk (Ck_mk (Ck_aimedAt Ck) (Ck_reached Ck) (Ck_reachedFrom Ck) (Ck_reachedCount Ck) x1 x2) Jd Ld Pr)) C in_Ck t_Ck t_Ck_ok n_Ck hP (hDD _ _ _ _ _ _ _ _ _ _ _ _ _) hS 45 cw_45 rfl 9 (by decide) k_2_16 rfl rfl (by decide +kernel) rfl rfl (Nat.le_of_ble_eq_true rfl) rfl d_Ck_report_38 (fun H locs hP hS => ?_)
  cases h
  exact o_rv C hP hS d_Ck_report_41
set_option maxHeartbeats 4000000 in
set_option maxRecDepth 100000 in
theorem c_Ck_report {E : (Nat → Prop) → State → Heap → Prop} {D : va_G} {ad kd sd vd xd : Nat → Nat} {ca : Nat → ClassId} (hE : o_EK E kd sd vd xd) (l : Launch) (x1 : Int32) (x2 : Int32) (Ck : SCk) (Sj : SSJ) (T0 : STx) (T1 : STx) (Rd : SRd) (Pg : SPg) (Pt : SPt) (Mk : SMk) (Lk : SLk) (Jd : SJd) (Ld : SLd) (Pr : SPr) (rt : Nat) {r : SCk} (h : m_Ck_report x1 x2 Ck = some r) : o_Cn E l D o_cls (o_tys ca) y_Ck_report cc_Ck_report rm_Ck_report [.ref (ad 45), .int x1, .int x2] (o_cw ad ca rt Sj T0 T1 Rd Pg Pt Mk Lk Ck Jd Ld Pr) (o_cw ad ca rt Sj T0 T1 Rd Pg Pt Mk Lk r Jd Ld Pr) none := by
  refine o_Cn_of (by decide) (Nat.le_of_ble_eq_true rfl) ?_
  intro p e s m below meth c A ls C hD hP hS hl
  have hDD : ∀ (rt : Nat) (Sj : SSJ) (T0 : STx) (T1 : STx) (Rd : SRd) (Pg : SPg) (Pt : SPt) (Mk : SMk) (Lk : SLk) (Ck : SCk) (Jd : SJd) (Ld : SLd) (Pr : SPr), va_D A (o_cw ad ca rt Sj T0 T1 Rd Pg Pt Mk Lk Ck Jd Ld Pr) := fun _ _ _ _ _ _ _ _ _ _ _ _ _ => o_D_map hD rfl
  have hl : lv_has ls 3 [(0, .ref (ad 45)), (1, .int x1), (2, .int x2)] := hl
  unfold m_Ck_report at h
  have C0 := C
  obtain ⟨hx, hb, -, -, -, hown, hts, hK, -, -⟩ := C0
  refine lv_aload_n hx hb d_Ck_report_0 rfl (lv_at hl 0 rfl) ?_
  refine o_get (v := .int (Ck_found Ck)) C in_Ck hP 45 cw_45 rfl 8 (by decide) k_2_15 rfl rfl d_Ck_report_1 ?_
  refine lv_if_eq (tgt := 31) hx hb d_Ck_report_4 (by decide) (fun c1 => ?_) (fun c1 => ?_)
  · replace h := o_tt c1 h
    exact w_Ck_report_j31 hE C hDD x1 x2 Ck Sj T0 T1 Rd Pg Pt Mk Lk Jd Ld Pr rt h _ _ _ hP hS (lv_sub hl [0, 1, 2] rfl)
  · replace h := o_ff c1 h
    refine lv_iload_n hx hb d_Ck_report_7 rfl (lv_at hl 2 rfl) ?_
    refine lv_aload_n hx hb d_Ck_report_8 rfl (lv_at hl 0 rfl) ?_
    refine o_get (v := .int (Ck_foundAt Ck)) C in_Ck hP 45 cw_45 rfl 9 (by decide) k_2_16 rfl rfl d_Ck_report_9 ?_
    refine lv_icmp_lt (tgt := 31) hx hb d_Ck_report_12 (by decide) (fun c2 => ?_) (fun c2 => ?_)
    · replace h := o_tt c2 h
      exact w_Ck_report_j31 hE C hDD x1 x2 Ck Sj T0 T1 Rd Pg Pt Mk Lk Jd Ld Pr rt h _ _ _ hP hS (lv_sub hl [0, 1, 2] rfl)
    · replace h := o_ff c2 h
      refine lv_iload_n hx hb d_Ck_report_15 rfl (lv_at hl 2 rfl) ?_
      refine lv_aload_n hx hb d_Ck_report_16 rfl (lv_at hl 0 rfl) ?_
      refine o_get (v := .int (Ck_foundAt Ck)) C in_Ck hP 45 cw_45 rfl 9 (by decide) k_2_16 rfl rfl d_Ck_report_17 ?_
      refine lv_icmp_ne (tgt := 41) hx hb d_Ck_report_20 (by decide) (fun c3 => ?_) (fun c3 => ?_)
      · replace h := o_ff c3 h
        cases h
        exact o_rv C hP hS d_Ck_report_41
      · replace h := o_tt c3 h
        refine lv_iload_n hx hb d_Ck_report_23 rfl (lv_at hl 1 rfl) ?_
        refine lv_aload_n hx hb d_Ck_report_24 rfl (lv_at hl 0 rfl) ?_
        refine o_get (v := .int (Ck_found Ck)) C in_Ck hP 45 cw_45 rfl 8 (by decide) k_2_15 rfl rfl d_Ck_report_25 ?_
        refine lv_icmp_ge (tgt := 41) hx hb d_Ck_report_28 (by decide) (fun c4 => ?_) (fun c4 => ?_)
        · replace h := o_tt c4 h
          cases h
          exact o_rv C hP hS d_Ck_report_41
        · replace h := o_ff c4 h
          exact w_Ck_report_j31 hE C hDD x1 x2 Ck Sj T0 T1 Rd Pg Pt Mk Lk Jd Ld Pr rt h _ _ _ hP hS (lv_sub hl [0, 1, 2] rfl)
set_option maxHeartbeats 4000000 in
set_option maxRecDepth 100000 in
theorem c_Ck_require {E : (Nat → Prop) → State → Heap → Prop} {D : va_G} {ad kd sd vd xd : Nat → Nat} {ca : Nat → ClassId} (hE : o_EK E kd sd vd xd) (l : Launch) (x1 : Int32) (x2 : Int32) (Ck : SCk) (Sj : SSJ) (T0 : STx) (T1 : STx) (Rd : SRd) (Pg : SPg) (Pt : SPt) (Mk : SMk) (Lk : SLk) (Jd : SJd) (Ld : SLd) (Pr : SPr) (rt : Nat) {r : SCk} (h : m_Ck_require x1 x2 Ck = some r) : o_Cn E l D o_cls (o_tys ca) y_Ck_require cc_Ck_require rm_Ck_require [.ref (ad 45), .int x1, .int x2] (o_cw ad ca rt Sj T0 T1 Rd Pg Pt Mk Lk Ck Jd Ld Pr) (o_cw ad ca rt Sj T0 T1 Rd Pg Pt Mk Lk r Jd Ld Pr) none := by
  refine o_Cn_of (by decide) (Nat.le_of_ble_eq_true rfl) ?_
  intro p e s m below meth c A ls C hD hP hS hl
  have hDD : ∀ (rt : Nat) (Sj : SSJ) (T0 : STx) (T1 : STx) (Rd : SRd) (Pg : SPg) (Pt : SPt) (Mk : SMk) (Lk : SLk) (Ck : SCk) (Jd : SJd) (Ld : SLd) (Pr : SPr), va_D A (o_cw ad ca rt Sj T0 T1 Rd Pg Pt Mk Lk Ck Jd Ld Pr) := fun _ _ _ _ _ _ _ _ _ _ _ _ _ => o_D_map hD rfl
  have hl : lv_has ls 3 [(0, .ref (ad 45)), (1, .int x1), (2, .int x2)] := hl
  unfold m_Ck_require at h
  have C0 := C
  obtain ⟨hx, hb, -, -, -, hown, hts, hK, -, -⟩ := C0
  refine lv_iload_n hx hb d_Ck_require_0 rfl (lv_at hl 1 rfl) ?_
  refine lv_if_ne (tgt := 10) hx hb d_Ck_require_1 (by decide) (fun c1 => ?_) (fun c1 => ?_)
  · replace h := o_ff c1 h
    cases h
    exact o_rv C hP hS d_Ck_require_10
  · replace h := o_tt c1 h
    refine lv_aload_n hx hb d_Ck_require_4 rfl (lv_at hl 0 rfl) ?_
    refine lv_iconst (v := (1:Int32)) hx hb d_Ck_require_5 (by decide) ?_
    refine lv_iload_n hx hb d_Ck_require_6 rfl (lv_at hl 2 rfl) ?_
    obtain ⟨q1, hq1, h⟩ := o_bd_some h
    refine o_V (st1 := []) (w1 := (o_cw ad ca rt Sj T0 T1 Rd Pg Pt Mk Lk q1 Jd Ld Pr)) hE.1 C (c_Ck_report hE l (1:Int32) x2 Ck Sj T0 T1 Rd Pg Pt Mk Lk Jd Ld Pr rt hq1) hP (hDD _ _ _ _ _ _ _ _ _ _ _ _ _) hS hl.1 rfl cw_45 k_4_57 k_4_59 k_s_20 k_1_7 k_4_60 hv_Ck_report rfl rfl ⟨(Nat.le_of_ble_eq_true rfl), (Nat.le_of_ble_eq_true rfl)⟩ rfl (Nat.le_of_ble_eq_true rfl) ⟨Nat.zero_le _, Nat.zero_le _⟩ rfl d_Ck_require_7 (fun H locs hP hS => ?_)
    cases h
    exact o_rv C hP hS d_Ck_require_10
set_option maxHeartbeats 4000000 in
set_option maxRecDepth 100000 in
theorem c_Ck_takeSchema {E : (Nat → Prop) → State → Heap → Prop} {D : va_G} {ad kd sd vd xd : Nat → Nat} {ca : Nat → ClassId} (hE : o_EK E kd sd vd xd) (l : Launch) (x1 : Int32) (T0 : STx) (Mk : SMk) (Ck : SCk) (Sj : SSJ) (T1 : STx) (Rd : SRd) (Pg : SPg) (Pt : SPt) (Lk : SLk) (Jd : SJd) (Ld : SLd) (Pr : SPr) (rt : Nat) {r : SMk × SCk} (h : m_Ck_takeSchema x1 T0 Mk Ck = some r) : o_Cn E l D o_cls (o_tys ca) y_Ck_takeSchema cc_Ck_takeSchema rm_Ck_takeSchema [.ref (ad 45), .int x1] (o_cw ad ca rt Sj T0 T1 Rd Pg Pt Mk Lk Ck Jd Ld Pr) (o_cw ad ca rt Sj T0 T1 Rd Pg Pt r.1 Lk r.2 Jd Ld Pr) none := by
  refine o_Cn_of (by decide) (Nat.le_of_ble_eq_true rfl) ?_
  intro p e s m below meth c A ls C hD hP hS hl
  have hDD : ∀ (rt : Nat) (Sj : SSJ) (T0 : STx) (T1 : STx) (Rd : SRd) (Pg : SPg) (Pt : SPt) (Mk : SMk) (Lk : SLk) (Ck : SCk) (Jd : SJd) (Ld : SLd) (Pr : SPr), va_D A (o_cw ad ca rt Sj T0 T1 Rd Pg Pt Mk Lk Ck Jd Ld Pr) := fun _ _ _ _ _ _ _ _ _ _ _ _ _ => o_D_map hD rfl
  have hl : lv_has ls 2 [(0, .ref (ad 45)), (1, .int x1)] := hl
  unfold m_Ck_takeSchema at h
  have C0 := C
  obtain ⟨hx, hb, -, -, -, hown, hts, hK, -, -⟩ := C0
  refine lv_aload_n hx hb d_Ck_takeSchema_0 rfl (lv_at hl 0 rfl) ?_
  refine lv_aload_n hx hb d_Ck_takeSchema_1 rfl (lv_at hl 0 rfl) ?_
  refine o_get (v := .ref (ad 39)) C in_Ck hP 45 cw_45 rfl 1 (by decide) k_2_8 rfl rfl d_Ck_takeSchema_2 ?_
  refine lv_iload_n hx hb d_Ck_takeSchema_5 rfl (lv_at hl 1 rfl) ?_
  obtain ⟨q1, hq1, h⟩ := o_bd_some h
  refine o_V (st1 := [.int q1.1, .ref (ad 45)]) (w1 := (o_cw ad ca rt Sj T0 T1 Rd Pg Pt q1.2 Lk Ck Jd Ld Pr)) hE.1 C (c_Mk_markSchema hE l x1 T0 Mk Sj T1 Rd Pg Pt Lk Ck Jd Ld Pr rt hq1) hP (hDD _ _ _ _ _ _ _ _ _ _ _ _ _) hS hl.1 rfl cw_39 k_4_45 k_4_46 k_4_47 k_1_6 k_4_48 hv_Mk_markSchema rfl rfl ⟨(Nat.le_of_ble_eq_true rfl), (Nat.le_of_ble_eq_true rfl)⟩ rfl (Nat.le_of_ble_eq_true rfl) ⟨Nat.zero_le _, Nat.zero_le _⟩ rfl d_Ck_takeSchema_6 (fun H locs hP hS => ?_)
  refine lv_iload_n hx hb d_Ck_takeSchema_9 rfl (lv_at hl 1 rfl) ?_
  obtain ⟨q2, hq2, h⟩ := o_bd_some h
  refine o_V (st1 := []) (w1 := (o_cw ad ca rt Sj T0 T1 Rd Pg Pt q1.2 Lk q2 Jd Ld Pr)) hE.1 C (c_Ck_require hE l q1.1 x1 Ck Sj T0 T1 Rd Pg Pt q1.2 Lk Jd Ld Pr rt hq2) hP (hDD _ _ _ _ _ _ _ _ _ _ _ _ _) hS hl.1 rfl cw_45 k_4_53 k_4_55 k_s_19 k_1_7 k_4_56 hv_Ck_require rfl rfl ⟨(Nat.le_of_ble_eq_true rfl), (Nat.le_of_ble_eq_true rfl)⟩ rfl (Nat.le_of_ble_eq_true rfl) ⟨Nat.zero_le _, Nat.zero_le _⟩ rfl d_Ck_takeSchema_10 (fun H locs hP hS => ?_)
  cases h
  exact o_rv C hP hS d_Ck_takeSchema_13
set_option maxHeartbeats 4000000 in
set_option maxRecDepth 100000 in
theorem c_Mk_isSchema {E : (Nat → Prop) → State → Heap → Prop} {D : va_G} {ad kd sd vd xd : Nat → Nat} {ca : Nat → ClassId} (hE : o_EK E kd sd vd xd) (l : Launch) (x1 : Int32) (Mk : SMk) (Sj : SSJ) (T0 : STx) (T1 : STx) (Rd : SRd) (Pg : SPg) (Pt : SPt) (Lk : SLk) (Ck : SCk) (Jd : SJd) (Ld : SLd) (Pr : SPr) (rt : Nat) {r : Int32} (h : m_Mk_isSchema x1 Mk = some r) : o_Cn E l D o_cls (o_tys ca) y_Mk_isSchema cc_Mk_isSchema rm_Mk_isSchema [.ref (ad 39), .int x1] (o_cw ad ca rt Sj T0 T1 Rd Pg Pt Mk Lk Ck Jd Ld Pr) (o_cw ad ca rt Sj T0 T1 Rd Pg Pt Mk Lk Ck Jd Ld Pr) (some (.int r)) := by
  refine o_Cn_of (by decide) (Nat.le_of_ble_eq_true rfl) ?_
  intro p e s m below meth c A ls C hD hP hS hl
  have hDD : ∀ (rt : Nat) (Sj : SSJ) (T0 : STx) (T1 : STx) (Rd : SRd) (Pg : SPg) (Pt : SPt) (Mk : SMk) (Lk : SLk) (Ck : SCk) (Jd : SJd) (Ld : SLd) (Pr : SPr), va_D A (o_cw ad ca rt Sj T0 T1 Rd Pg Pt Mk Lk Ck Jd Ld Pr) := fun _ _ _ _ _ _ _ _ _ _ _ _ _ => o_D_map hD rfl
  have hl : lv_has ls 2 [(0, .ref (ad 39)), (1, .int x1)] := hl
  unfold m_Mk_isSchema at h
  have C0 := C
  obtain ⟨hx, hb, -, -, -, hown, hts, hK, -, -⟩ := C0
  refine lv_iload_n hx hb d_Mk_isSchema_0 rfl (lv_at hl 1 rfl) ?_
  refine lv_if_lt (tgt := 24) hx hb d_Mk_isSchema_1 (by decide) (fun c1 => ?_) (fun c1 => ?_)
  · replace h := o_tt c1 h
    refine lv_iconst (v := (0:Int32)) hx hb d_Mk_isSchema_24 (by decide) ?_
    cases h
    exact o_rz (v := (0:Int32)) C o_nar0 hP hS d_Mk_isSchema_25
  · replace h := o_ff c1 h
    refine lv_iload_n hx hb d_Mk_isSchema_4 rfl (lv_at hl 1 rfl) ?_
    refine lv_sipush (v := (1000:Int32)) hx hb d_Mk_isSchema_5 (by decide) ?_
    refine lv_icmp_ge (tgt := 24) hx hb d_Mk_isSchema_8 (by decide) (fun c2 => ?_) (fun c2 => ?_)
    · replace h := o_tt c2 h
      refine lv_iconst (v := (0:Int32)) hx hb d_Mk_isSchema_24 (by decide) ?_
      cases h
      exact o_rz (v := (0:Int32)) C o_nar0 hP hS d_Mk_isSchema_25
    · replace h := o_ff c2 h
      refine lv_aload_n hx hb d_Mk_isSchema_11 rfl (lv_at hl 0 rfl) ?_
      refine o_get (v := .ref (ad 41)) C in_Mk hP 39 cw_39 rfl 2 (by decide) k_1_208 rfl rfl d_Mk_isSchema_12 ?_
      refine lv_iload_n hx hb d_Mk_isSchema_15 rfl (lv_at hl 1 rfl) ?_
      obtain ⟨g3, h⟩ := o_gd_some h
      refine o_zald (f := (Mk_schemas Mk)) C hP 41 34 cw_41 rfl g3 d_Mk_isSchema_16 ?_
      refine lv_if_eq (tgt := 24) hx hb d_Mk_isSchema_17 (by decide) (fun c4 => ?_) (fun c4 => ?_)
      · replace h := o_tt c4 h
        refine lv_iconst (v := (0:Int32)) hx hb d_Mk_isSchema_24 (by decide) ?_
        cases h
        exact o_rz (v := (0:Int32)) C o_nar0 hP hS d_Mk_isSchema_25
      · replace h := o_ff c4 h
        refine lv_iconst (v := (1:Int32)) hx hb d_Mk_isSchema_20 (by decide) ?_
        refine lv_goto (tgt := 25) hx hb d_Mk_isSchema_21 (by decide) ?_
        cases h
        exact o_rz (v := (1:Int32)) C o_nar1 hP hS d_Mk_isSchema_25
set_option maxHeartbeats 4000000 in
set_option maxRecDepth 100000 in
theorem c_Kw_numbered {E : (Nat → Prop) → State → Heap → Prop} {D : va_G} {ad kd sd vd xd : Nat → Nat} {ca : Nat → ClassId} (hE : o_EK E kd sd vd xd) (l : Launch) (x0 : Int32) (Sj : SSJ) (T0 : STx) (T1 : STx) (Rd : SRd) (Pg : SPg) (Pt : SPt) (Mk : SMk) (Lk : SLk) (Ck : SCk) (Jd : SJd) (Ld : SLd) (Pr : SPr) (rt : Nat) {r : Nat} (h : m_Kw_numbered x0 = some r) : o_Cn E l D o_cls (o_tys ca) y_Kw_numbered cc_Kw_numbered rm_Kw_numbered [.int x0] (o_cw ad ca rt Sj T0 T1 Rd Pg Pt Mk Lk Ck Jd Ld Pr) (o_cw ad ca rt Sj T0 T1 Rd Pg Pt Mk Lk Ck Jd Ld Pr) (some (.ref (kd r))) := by
  refine o_Cn_of (by decide) (Nat.le_of_ble_eq_true rfl) ?_
  intro p e s m below meth c A ls C hD hP hS hl
  have hDD : ∀ (rt : Nat) (Sj : SSJ) (T0 : STx) (T1 : STx) (Rd : SRd) (Pg : SPg) (Pt : SPt) (Mk : SMk) (Lk : SLk) (Ck : SCk) (Jd : SJd) (Ld : SLd) (Pr : SPr), va_D A (o_cw ad ca rt Sj T0 T1 Rd Pg Pt Mk Lk Ck Jd Ld Pr) := fun _ _ _ _ _ _ _ _ _ _ _ _ _ => o_D_map hD rfl
  have hl : lv_has ls 1 [(0, .int x0)] := hl
  unfold m_Kw_numbered at h
  have C0 := C
  obtain ⟨hx, hb, -, -, -, hown, hts, hK, -, -⟩ := C0
  refine lv_iload_n hx hb d_Kw_numbered_0 rfl (lv_at hl 0 rfl) ?_
  refine lv_if_lt (tgt := 20) hx hb d_Kw_numbered_1 (by decide) (fun c1 => ?_) (fun c1 => ?_)
  · replace h := o_tt c1 h
    refine va_gets (v := .ref (kd 0)) hx hb ((hE.2.2.1 _ _ _ C.2.2.2.2.2.2.2.2.2).1 0 (by decide)).1 hS hown (hts _ k_4_90) (fun _ h9 => h9) d_Kw_numbered_20 ?_
    cases h
    exact o_ra C ⟨_, rfl⟩ hP hS d_Kw_numbered_23
  · replace h := o_ff c1 h
    refine lv_iload_n hx hb d_Kw_numbered_4 rfl (lv_at hl 0 rfl) ?_
    refine va_gets (v := .ref (xd 0)) hx hb (hE.2.2.2.1 _ _ _ C.2.2.2.2.2.2.2.2.2).1 hS hown (hts _ k_4_79) (fun _ h9 => h9) d_Kw_numbered_5 ?_
    refine va_tlen (v := (45:Int32)) hx hb (hE.2.2.2.1 _ _ _ C.2.2.2.2.2.2.2.2.2).2 hS rfl d_Kw_numbered_8 ?_
    refine lv_icmp_ge (tgt := 20) hx hb d_Kw_numbered_9 (by decide) (fun c2 => ?_) (fun c2 => ?_)
    · replace h := o_tt c2 h
      refine va_gets (v := .ref (kd 0)) hx hb ((hE.2.2.1 _ _ _ C.2.2.2.2.2.2.2.2.2).1 0 (by decide)).1 hS hown (hts _ k_4_90) (fun _ h9 => h9) d_Kw_numbered_20 ?_
      cases h
      exact o_ra C ⟨_, rfl⟩ hP hS d_Kw_numbered_23
    · replace h := o_ff c2 h
      refine va_gets (v := .ref (xd 0)) hx hb (hE.2.2.2.1 _ _ _ C.2.2.2.2.2.2.2.2.2).1 hS hown (hts _ k_4_79) (fun _ h9 => h9) d_Kw_numbered_12 ?_
      refine lv_iload_n hx hb d_Kw_numbered_15 rfl (lv_at hl 0 rfl) ?_
      obtain ⟨g3, h⟩ := o_gd_some h
      refine vb_tq (v := .ref (kd x0.toNatClampNeg)) hx hb (hE.2.2.2.1 _ _ _ C.2.2.2.2.2.2.2.2.2).2 hS (o_in_in g3) rfl d_Kw_numbered_16 ?_
      refine lv_goto (tgt := 23) hx hb d_Kw_numbered_17 (by decide) ?_
      cases h
      exact o_ra C ⟨_, rfl⟩ hP hS d_Kw_numbered_23
set_option maxHeartbeats 4000000 in
set_option maxRecDepth 100000 in
theorem w_Tx_spells_b50_0 {E : (Nat → Prop) → State → Heap → Prop} {p : Program} {l : Launch} {e : Env} {s : State} {m : MethodId} {args : Array Value} {below : List Frame} {meth : Method} {c : Code} {D : va_G} {ad kd sd vd xd : Nat → Nat} {ca : Nat → ClassId} {A : Nat → Prop} {Q : State → Prop} (hE : o_EK E kd sd vd xd) (C : o_Cx E p s m args meth c D o_cls (o_tys ca) "SchemaJudge$Text" b_Tx_spells (some .boolean) 4 cc_Tx_spells A) (hDD : ∀ (rt : Nat) (Sj : SSJ) (T0 : STx) (T1 : STx) (Rd : SRd) (Pg : SPg) (Pt : SPt) (Mk : SMk) (Lk : SLk) (Ck : SCk) (Jd : SJd) (Ld : SLd) (Pr : SPr), va_D A (o_cw ad ca rt Sj T0 T1 Rd Pg Pt Mk Lk Ck Jd Ld Pr)) (n : Nat) (u50_x1 : Int32) (u50_x2 : Nat) (gu50_x2 : o_sb u50_x2 = true) (u50_a0 : STx) (u50_Sj : SSJ) (u50_T1 : STx) (u50_Rd : SRd) (u50_Pg : SPg) (u50_Pt : SPt) (u50_Mk : SMk) (u50_Lk : SLk) (u50_Ck : SCk) (u50_Jd : SJd) (u50_Ld : SLd) (u50_Pr : SPr) (u50_rt : Nat) (z : Int32) (q : Nat × Int32) (h : m_Tx_spells_b50 n u50_x1 u50_x2 u50_a0 z = some q) (h0 : q.1 = 0 → o_At p l e rm_Tx_spells s m args below meth c Q o_cls D A 4 50 [] (o_cw ad ca u50_rt u50_Sj u50_a0 u50_T1 u50_Rd u50_Pg u50_Pt u50_Mk u50_Lk u50_Ck u50_Jd u50_Ld u50_Pr) [(0, .ref (ad 1)), (1, .int u50_x1), (2, .ref (sd u50_x2)), (3, .int q.2)]) (h1 : q.1 ≠ 0 → (if q.1 = 1 then o_At p l e rm_Tx_spells s m args below meth c Q o_cls D A 4 79 [] (o_cw ad ca u50_rt u50_Sj u50_a0 u50_T1 u50_Rd u50_Pg u50_Pt u50_Mk u50_Lk u50_Ck u50_Jd u50_Ld u50_Pr) [] else o_At p l e rm_Tx_spells s m args below meth c Q o_cls D A 4 87 [] (o_cw ad ca u50_rt u50_Sj u50_a0 u50_T1 u50_Rd u50_Pg u50_Pt u50_Mk u50_Lk u50_Ck u50_Jd u50_Ld u50_Pr) [])) : o_At p l e rm_Tx_spells s m args below meth c Q o_cls D A 4 50 [] (o_cw ad ca u50_rt u50_Sj u50_a0 u50_T1 u50_Rd u50_Pg u50_Pt u50_Mk u50_Lk u50_Ck u50_Jd u50_Ld u50_Pr) [(0, .ref (ad 1)), (1, .int u50_x1), (2, .ref (sd u50_x2)), (3, .int z)] := by
  unfold m_Tx_spells_b50 at h
  intro H locs ls hP hS hl
  have C0 := C
  obtain ⟨hx, hb, -, -, -, hown, hts, hK, -, -⟩ := C0
  refine lv_iload_n hx hb d_Tx_spells_50 rfl (lv_at hl 3 rfl) ?_
  refine lv_aload_n hx hb d_Tx_spells_51 rfl (lv_at hl 2 rfl) ?_
  obtain ⟨q2, hq2, h⟩ := o_bd_some h
  refine o_VR (K := "java/lang/String") (st1 := [.int q2, .int z]) (w1 := (o_cw ad ca u50_rt u50_Sj u50_a0 u50_T1 u50_Rd u50_Pg u50_Pt u50_Mk u50_Lk u50_Ck u50_Jd u50_Ld u50_Pr)) hE.1 C (c_JS_length hE l u50_x2 gu50_x2 u50_Sj u50_a0 u50_T1 u50_Rd u50_Pg u50_Pt u50_Mk u50_Lk u50_Ck u50_Jd u50_Ld u50_Pr u50_rt hq2) hP (hDD _ _ _ _ _ _ _ _ _ _ _ _ _) hS hl.1 (o_rs hE C gu50_x2 hS) k_4_85 k_3_62 k_3_63 k_1_18 k_3_64 hv_JS_length rfl rfl ⟨(Nat.le_of_ble_eq_true rfl), (Nat.le_of_ble_eq_true rfl)⟩ rfl (Nat.le_of_ble_eq_true rfl) ⟨Nat.zero_le _, Nat.zero_le _⟩ rfl d_Tx_spells_52 (fun H locs hP hS => ?_)
  refine lv_icmp_ge (tgt := 87) hx hb d_Tx_spells_55 (by decide) (fun c8 => ?_) (fun c8 => ?_)
  · replace h := o_tt c8 h
    cases h
    exact h1 (Nat.succ_ne_zero 1) _ _ _ hP hS (lv_sub hl [] rfl)
  · replace h := o_ff c8 h
    refine lv_aload_n hx hb d_Tx_spells_58 rfl (lv_at hl 0 rfl) ?_
    refine o_get (v := .ref (ad 11)) C in_Tx hP 1 cw_1 rfl 9 (by decide) k_1_55 rfl rfl d_Tx_spells_59 ?_
    refine lv_aload_n hx hb d_Tx_spells_62 rfl (lv_at hl 0 rfl) ?_
    refine o_get (v := .ref (ad 7)) C in_Tx hP 1 cw_1 rfl 5 (by decide) k_1_51 rfl rfl d_Tx_spells_63 ?_
    refine lv_iload_n hx hb d_Tx_spells_66 rfl (lv_at hl 1 rfl) ?_
    obtain ⟨g9, h⟩ := o_gd_some h
    refine o_iald (f := (Tx_starts u50_a0)) C hP 7 5 cw_7 rfl g9 d_Tx_spells_67 ?_
    refine lv_iload_n hx hb d_Tx_spells_68 rfl (lv_at hl 3 rfl) ?_
    refine lv_iadd hx hb d_Tx_spells_69 ?_
    obtain ⟨g10, h⟩ := o_gd_some h
    refine o_iald (f := (Tx_cells u50_a0)) C hP 11 9 cw_11 rfl g10 d_Tx_spells_70 ?_
    refine lv_aload_n hx hb d_Tx_spells_71 rfl (lv_at hl 2 rfl) ?_
    refine lv_iload_n hx hb d_Tx_spells_72 rfl (lv_at hl 3 rfl) ?_
    obtain ⟨q3, hq3, h⟩ := o_bd_some h
    refine o_VR (K := "java/lang/String") (st1 := [.int q3, .int ((Tx_cells u50_a0) (((Tx_starts u50_a0) u50_x1.toNatClampNeg) + z).toNatClampNeg)]) (w1 := (o_cw ad ca u50_rt u50_Sj u50_a0 u50_T1 u50_Rd u50_Pg u50_Pt u50_Mk u50_Lk u50_Ck u50_Jd u50_Ld u50_Pr)) hE.1 C (c_JS_charAt hE l u50_x2 gu50_x2 z u50_Sj u50_a0 u50_T1 u50_Rd u50_Pg u50_Pt u50_Mk u50_Lk u50_Ck u50_Jd u50_Ld u50_Pr u50_rt hq3) hP (hDD _ _ _ _ _ _ _ _ _ _ _ _ _) hS hl.1 (o_rs hE C gu50_x2 hS) k_4_86 k_3_72 k_3_73 k_1_18 k_3_74 hv_JS_charAt rfl rfl ⟨(Nat.le_of_ble_eq_true rfl), (Nat.le_of_ble_eq_true rfl)⟩ rfl (Nat.le_of_ble_eq_true rfl) ⟨Nat.zero_le _, Nat.zero_le _⟩ rfl d_Tx_spells_73 (fun H locs hP hS => ?_)
    refine lv_icmp_eq (tgt := 81) hx hb d_Tx_spells_76 (by decide) (fun c11 => ?_) (fun c11 => ?_)
    · replace h := o_tt c11 h
      obtain ⟨x3_81, ex3_81⟩ : ∃ y : Int32, y = z + (1:Int32) := ⟨_, rfl⟩
      replace h := o_nm_at ex3_81 h
      refine lv_iinc (v := x3_81) (lv' := [(3, .int x3_81), (0, .ref (ad 1)), (1, .int u50_x1), (2, .ref (sd u50_x2))]) hx hb d_Tx_spells_81 hl (k := 3) rfl (by rw [ex3_81]; rfl) (by decide) rfl (fun ls hl => ?_)
      refine lv_goto (tgt := 50) hx hb d_Tx_spells_84 (by decide) ?_
      cases h
      exact h0 rfl _ _ _ hP hS (lv_sub hl [1, 2, 3, 0] rfl)
    · replace h := o_ff c11 h
      cases h
      exact h1 (Nat.succ_ne_zero 0) _ _ _ hP hS (lv_sub hl [] rfl)
set_option maxHeartbeats 4000000 in
set_option maxRecDepth 100000 in
theorem c_Tx_spells_0 {E : (Nat → Prop) → State → Heap → Prop} {D : va_G} {ad kd sd vd xd : Nat → Nat} {ca : Nat → ClassId} (hE : o_EK E kd sd vd xd) (l : Launch) (n : Nat) (x1 : Int32) (x2 : Nat) (gx2 : o_sb x2 = true) (a0 : STx) (Sj : SSJ) (T1 : STx) (Rd : SRd) (Pg : SPg) (Pt : SPt) (Mk : SMk) (Lk : SLk) (Ck : SCk) (Jd : SJd) (Ld : SLd) (Pr : SPr) (rt : Nat) {r : Int32} (h : m_Tx_spells n x1 x2 a0 = some r) : o_Cn E l D o_cls (o_tys ca) y_Tx_spells cc_Tx_spells rm_Tx_spells [.ref (ad 1), .int x1, .ref (sd x2)] (o_cw ad ca rt Sj a0 T1 Rd Pg Pt Mk Lk Ck Jd Ld Pr) (o_cw ad ca rt Sj a0 T1 Rd Pg Pt Mk Lk Ck Jd Ld Pr) (some (.int r)) := by
  refine o_Cn_of (by decide) (Nat.le_of_ble_eq_true rfl) ?_
  intro p e s m below meth c A ls C hD hP hS hl
  have hDD : ∀ (rt : Nat) (Sj : SSJ) (T0 : STx) (T1 : STx) (Rd : SRd) (Pg : SPg) (Pt : SPt) (Mk : SMk) (Lk : SLk) (Ck : SCk) (Jd : SJd) (Ld : SLd) (Pr : SPr), va_D A (o_cw ad ca rt Sj T0 T1 Rd Pg Pt Mk Lk Ck Jd Ld Pr) := fun _ _ _ _ _ _ _ _ _ _ _ _ _ => o_D_map hD rfl
  have hl : lv_has ls 4 [(0, .ref (ad 1)), (1, .int x1), (2, .ref (sd x2))] := hl
  unfold m_Tx_spells at h
  have C0 := C
  obtain ⟨hx, hb, -, -, -, hown, hts, hK, -, -⟩ := C0
  refine lv_iload_n hx hb d_Tx_spells_0 rfl (lv_at hl 1 rfl) ?_
  refine lv_if_lt (tgt := 46) hx hb d_Tx_spells_1 (by decide) (fun c1 => ?_) (fun c1 => ?_)
  · replace h := o_tt c1 h
    refine lv_iconst (v := (0:Int32)) hx hb d_Tx_spells_46 (by decide) ?_
    cases h
    exact o_rz (v := (0:Int32)) C o_nar0 hP hS d_Tx_spells_47
  · replace h := o_ff c1 h
    refine lv_iload_n hx hb d_Tx_spells_4 rfl (lv_at hl 1 rfl) ?_
    refine lv_aload_n hx hb d_Tx_spells_5 rfl (lv_at hl 0 rfl) ?_
    refine o_get (v := .int (Tx_total a0)) C in_Tx hP 1 cw_1 rfl 10 (by decide) k_1_56 rfl rfl d_Tx_spells_6 ?_
    refine lv_icmp_ge (tgt := 46) hx hb d_Tx_spells_9 (by decide) (fun c2 => ?_) (fun c2 => ?_)
    · replace h := o_tt c2 h
      refine lv_iconst (v := (0:Int32)) hx hb d_Tx_spells_46 (by decide) ?_
      cases h
      exact o_rz (v := (0:Int32)) C o_nar0 hP hS d_Tx_spells_47
    · replace h := o_ff c2 h
      refine lv_aload_n hx hb d_Tx_spells_12 rfl (lv_at hl 0 rfl) ?_
      refine o_get (v := .ref (ad 4)) C in_Tx hP 1 cw_1 rfl 2 (by decide) k_1_48 rfl rfl d_Tx_spells_13 ?_
      refine lv_iload_n hx hb d_Tx_spells_16 rfl (lv_at hl 1 rfl) ?_
      obtain ⟨g3, h⟩ := o_gd_some h
      refine o_iald (f := (Tx_sizes a0)) C hP 4 2 cw_4 rfl g3 d_Tx_spells_17 ?_
      refine lv_aload_n hx hb d_Tx_spells_18 rfl (lv_at hl 2 rfl) ?_
      obtain ⟨q1, hq1, h⟩ := o_bd_some h
      refine o_VR (K := "java/lang/String") (st1 := [.int q1, .int ((Tx_sizes a0) x1.toNatClampNeg)]) (w1 := (o_cw ad ca rt Sj a0 T1 Rd Pg Pt Mk Lk Ck Jd Ld Pr)) hE.1 C (c_JS_length hE l x2 gx2 Sj a0 T1 Rd Pg Pt Mk Lk Ck Jd Ld Pr rt hq1) hP (hDD _ _ _ _ _ _ _ _ _ _ _ _ _) hS hl.1 (o_rs hE C gx2 hS) k_4_85 k_3_62 k_3_63 k_1_18 k_3_64 hv_JS_length rfl rfl ⟨(Nat.le_of_ble_eq_true rfl), (Nat.le_of_ble_eq_true rfl)⟩ rfl (Nat.le_of_ble_eq_true rfl) ⟨Nat.zero_le _, Nat.zero_le _⟩ rfl d_Tx_spells_19 (fun H locs hP hS => ?_)
      refine lv_icmp_ne (tgt := 46) hx hb d_Tx_spells_22 (by decide) (fun c4 => ?_) (fun c4 => ?_)
      · replace h := o_ff c4 h
        refine lv_iconst (v := (0:Int32)) hx hb d_Tx_spells_46 (by decide) ?_
        cases h
        exact o_rz (v := (0:Int32)) C o_nar0 hP hS d_Tx_spells_47
      · replace h := o_tt c4 h
        refine lv_aload_n hx hb d_Tx_spells_25 rfl (lv_at hl 0 rfl) ?_
        refine o_get (v := .ref (ad 7)) C in_Tx hP 1 cw_1 rfl 5 (by decide) k_1_51 rfl rfl d_Tx_spells_26 ?_
        refine lv_iload_n hx hb d_Tx_spells_29 rfl (lv_at hl 1 rfl) ?_
        obtain ⟨g5, h⟩ := o_gd_some h
        refine o_iald (f := (Tx_starts a0)) C hP 7 5 cw_7 rfl g5 d_Tx_spells_30 ?_
        refine lv_aload_n hx hb d_Tx_spells_31 rfl (lv_at hl 0 rfl) ?_
        refine o_get (v := .ref (ad 4)) C in_Tx hP 1 cw_1 rfl 2 (by decide) k_1_48 rfl rfl d_Tx_spells_32 ?_
        refine lv_iload_n hx hb d_Tx_spells_35 rfl (lv_at hl 1 rfl) ?_
        obtain ⟨g6, h⟩ := o_gd_some h
        refine o_iald (f := (Tx_sizes a0)) C hP 4 2 cw_4 rfl g6 d_Tx_spells_36 ?_
        refine lv_iadd hx hb d_Tx_spells_37 ?_
        refine lv_aload_n hx hb d_Tx_spells_38 rfl (lv_at hl 0 rfl) ?_
        refine o_get (v := .ref (ad 11)) C in_Tx hP 1 cw_1 rfl 9 (by decide) k_1_55 rfl rfl d_Tx_spells_39 ?_
        refine va_alen (v := (8192:Int32)) hx hb hK hP 11 9 cw_11 rfl rfl d_Tx_spells_42 ?_
        refine lv_icmp_le (tgt := 48) hx hb d_Tx_spells_43 (by decide) (fun c7 => ?_) (fun c7 => ?_)
        · replace h := o_tt c7 h
          refine lv_iconst (v := (0:Int32)) hx hb d_Tx_spells_48 (by decide) ?_
          refine lv_istore_n (lv' := [(3, .int (0:Int32)), (0, .ref (ad 1)), (1, .int x1), (2, .ref (sd x2))]) hx hb d_Tx_spells_49 rfl hl (by decide) rfl (fun ls hl => ?_)
          obtain ⟨q4, hq4, h⟩ := o_bd_some h
          refine o_sim2 (AH := fun zz => o_At p l e rm_Tx_spells s m _ below meth c _ o_cls D A 4 50 [] (o_cw ad ca rt Sj a0 T1 Rd Pg Pt Mk Lk Ck Jd Ld Pr) [(0, .ref (ad 1)), (1, .int x1), (2, .ref (sd x2)), (3, .int zz)]) (AX := fun qq => if qq.1 = 1 then o_At p l e rm_Tx_spells s m _ below meth c _ o_cls D A 4 79 [] (o_cw ad ca rt Sj a0 T1 Rd Pg Pt Mk Lk Ck Jd Ld Pr) [] else o_At p l e rm_Tx_spells s m _ below meth c _ o_cls D A 4 87 [] (o_cw ad ca rt Sj a0 T1 Rd Pg Pt Mk Lk Ck Jd Ld Pr) []) (fun zz qq h h0 h1 => w_Tx_spells_b50_0 hE C hDD n x1 x2 gx2 a0 Sj T1 Rd Pg Pt Mk Lk Ck Jd Ld Pr rt zz qq h h0 h1) n _ q4 hq4 ?_ _ _ _ hP hS (lv_sub hl [1, 2, 3, 0] rfl)
          by_cases c12 : q4.1 = 1
          · replace h := o_tt c12 h
            refine o_ip c12 ?_
            intro H locs ls hP hS hl
            refine lv_iconst (v := (0:Int32)) hx hb d_Tx_spells_79 (by decide) ?_
            cases h
            exact o_rz (v := (0:Int32)) C o_nar0 hP hS d_Tx_spells_80
          replace h := o_ff c12 h
          refine o_in_ c12 ?_
          intro H locs ls hP hS hl
          refine lv_iconst (v := (1:Int32)) hx hb d_Tx_spells_87 (by decide) ?_
          cases h
          exact o_rz (v := (1:Int32)) C o_nar1 hP hS d_Tx_spells_88
        · replace h := o_ff c7 h
          refine lv_iconst (v := (0:Int32)) hx hb d_Tx_spells_46 (by decide) ?_
          cases h
          exact o_rz (v := (0:Int32)) C o_nar0 hP hS d_Tx_spells_47
set_option maxHeartbeats 4000000 in
set_option maxRecDepth 100000 in
theorem w_Kw_placeOf_b2_0 {E : (Nat → Prop) → State → Heap → Prop} {p : Program} {l : Launch} {e : Env} {s : State} {m : MethodId} {args : Array Value} {below : List Frame} {meth : Method} {c : Code} {D : va_G} {ad kd sd vd xd : Nat → Nat} {ca : Nat → ClassId} {A : Nat → Prop} {Q : State → Prop} (hE : o_EK E kd sd vd xd) (C : o_Cx E p s m args meth c D o_cls (o_tys ca) "SchemaJudge$Keyword" b_Kw_placeOf (some .int) 3 cc_Kw_placeOf A) (hDD : ∀ (rt : Nat) (Sj : SSJ) (T0 : STx) (T1 : STx) (Rd : SRd) (Pg : SPg) (Pt : SPt) (Mk : SMk) (Lk : SLk) (Ck : SCk) (Jd : SJd) (Ld : SLd) (Pr : SPr), va_D A (o_cw ad ca rt Sj T0 T1 Rd Pg Pt Mk Lk Ck Jd Ld Pr)) (n : Nat) (u2_x1 : Int32) (u2_a0 : STx) (u2_Sj : SSJ) (u2_T1 : STx) (u2_Rd : SRd) (u2_Pg : SPg) (u2_Pt : SPt) (u2_Mk : SMk) (u2_Lk : SLk) (u2_Ck : SCk) (u2_Jd : SJd) (u2_Ld : SLd) (u2_Pr : SPr) (u2_rt : Nat) (z : Int32) (q : Nat × Int32) (h : m_Kw_placeOf_b2 n u2_x1 u2_a0 z = some q) (h0 : q.1 = 0 → o_At p l e rm_Kw_placeOf s m args below meth c Q o_cls D A 3 2 [] (o_cw ad ca u2_rt u2_Sj u2_a0 u2_T1 u2_Rd u2_Pg u2_Pt u2_Mk u2_Lk u2_Ck u2_Jd u2_Ld u2_Pr) [(0, .ref (ad 1)), (1, .int u2_x1), (2, .int q.2)]) (h1 : q.1 ≠ 0 → (if q.1 = 1 then o_At p l e rm_Kw_placeOf s m args below meth c Q o_cls D A 3 26 [] (o_cw ad ca u2_rt u2_Sj u2_a0 u2_T1 u2_Rd u2_Pg u2_Pt u2_Mk u2_Lk u2_Ck u2_Jd u2_Ld u2_Pr) [(2, .int q.2)] else o_At p l e rm_Kw_placeOf s m args below meth c Q o_cls D A 3 34 [] (o_cw ad ca u2_rt u2_Sj u2_a0 u2_T1 u2_Rd u2_Pg u2_Pt u2_Mk u2_Lk u2_Ck u2_Jd u2_Ld u2_Pr) [])) : o_At p l e rm_Kw_placeOf s m args below meth c Q o_cls D A 3 2 [] (o_cw ad ca u2_rt u2_Sj u2_a0 u2_T1 u2_Rd u2_Pg u2_Pt u2_Mk u2_Lk u2_Ck u2_Jd u2_Ld u2_Pr) [(0, .ref (ad 1)), (1, .int u2_x1), (2, .int z)] := by
  unfold m_Kw_placeOf_b2 at h
  intro H locs ls hP hS hl
  have C0 := C
  obtain ⟨hx, hb, -, -, -, hown, hts, hK, -, -⟩ := C0
  refine lv_iload_n hx hb d_Kw_placeOf_2 rfl (lv_at hl 2 rfl) ?_
  refine va_gets (v := .ref (xd 0)) hx hb (hE.2.2.2.1 _ _ _ C.2.2.2.2.2.2.2.2.2).1 hS hown (hts _ k_4_79) (fun _ h9 => h9) d_Kw_placeOf_3 ?_
  refine va_tlen (v := (45:Int32)) hx hb (hE.2.2.2.1 _ _ _ C.2.2.2.2.2.2.2.2.2).2 hS rfl d_Kw_placeOf_6 ?_
  refine lv_icmp_ge (tgt := 34) hx hb d_Kw_placeOf_7 (by decide) (fun c1 => ?_) (fun c1 => ?_)
  · replace h := o_tt c1 h
    cases h
    exact h1 (Nat.succ_ne_zero 1) _ _ _ hP hS (lv_sub hl [] rfl)
  · replace h := o_ff c1 h
    refine lv_aload_n hx hb d_Kw_placeOf_10 rfl (lv_at hl 0 rfl) ?_
    refine lv_iload_n hx hb d_Kw_placeOf_11 rfl (lv_at hl 1 rfl) ?_
    refine va_gets (v := .ref (xd 0)) hx hb (hE.2.2.2.1 _ _ _ C.2.2.2.2.2.2.2.2.2).1 hS hown (hts _ k_4_79) (fun _ h9 => h9) d_Kw_placeOf_12 ?_
    refine lv_iload_n hx hb d_Kw_placeOf_15 rfl (lv_at hl 2 rfl) ?_
    obtain ⟨g2, h⟩ := o_gd_some h
    refine vb_tq (v := .ref (kd z.toNatClampNeg)) hx hb (hE.2.2.2.1 _ _ _ C.2.2.2.2.2.2.2.2.2).2 hS (o_in_in g2) rfl d_Kw_placeOf_16 ?_
    refine va_getX (i := z.toNatClampNeg) hx hb (hE.2.2.2.2.2.2.2.1 _ _ _ C.2.2.2.2.2.2.2.2.2) (o_kl (o_in_kb g2)) hS hown (hts _ k_10_103) (fun _ h9 => h9) d_Kw_placeOf_17 ?_
    obtain ⟨q1, hq1, h⟩ := o_bd_some h
    refine o_V (st1 := [.int q1]) (w1 := (o_cw ad ca u2_rt u2_Sj u2_a0 u2_T1 u2_Rd u2_Pg u2_Pt u2_Mk u2_Lk u2_Ck u2_Jd u2_Ld u2_Pr)) hE.1 C (c_Tx_spells_0 hE l n u2_x1 (kw_str (z.toNatClampNeg)) (o_kws (o_in_kb g2)) u2_a0 u2_Sj u2_T1 u2_Rd u2_Pg u2_Pt u2_Mk u2_Lk u2_Ck u2_Jd u2_Ld u2_Pr u2_rt hq1) hP (hDD _ _ _ _ _ _ _ _ _ _ _ _ _) hS hl.1 rfl cw_1 k_4_81 k_4_82 k_4_83 k_1_2 k_4_84 hv_Tx_spells rfl rfl ⟨(Nat.le_of_ble_eq_true rfl), (Nat.le_of_ble_eq_true rfl)⟩ rfl (Nat.le_of_ble_eq_true rfl) ⟨Nat.zero_le _, Nat.zero_le _⟩ rfl d_Kw_placeOf_20 (fun H locs hP hS => ?_)
    refine lv_if_eq (tgt := 28) hx hb d_Kw_placeOf_23 (by decide) (fun c3 => ?_) (fun c3 => ?_)
    · replace h := o_tt c3 h
      obtain ⟨x2_28, ex2_28⟩ : ∃ y : Int32, y = z + (1:Int32) := ⟨_, rfl⟩
      replace h := o_nm_at ex2_28 h
      refine lv_iinc (v := x2_28) (lv' := [(2, .int x2_28), (0, .ref (ad 1)), (1, .int u2_x1)]) hx hb d_Kw_placeOf_28 hl (k := 2) rfl (by rw [ex2_28]; rfl) (by decide) rfl (fun ls hl => ?_)
      refine lv_goto (tgt := 2) hx hb d_Kw_placeOf_31 (by decide) ?_
      cases h
      exact h0 rfl _ _ _ hP hS (lv_sub hl [1, 2, 0] rfl)
    · replace h := o_ff c3 h
      cases h
      exact h1 (Nat.succ_ne_zero 0) _ _ _ hP hS (lv_sub hl [2] rfl)
set_option maxHeartbeats 4000000 in
set_option maxRecDepth 100000 in
theorem c_Kw_placeOf_0 {E : (Nat → Prop) → State → Heap → Prop} {D : va_G} {ad kd sd vd xd : Nat → Nat} {ca : Nat → ClassId} (hE : o_EK E kd sd vd xd) (l : Launch) (n : Nat) (x1 : Int32) (a0 : STx) (Sj : SSJ) (T1 : STx) (Rd : SRd) (Pg : SPg) (Pt : SPt) (Mk : SMk) (Lk : SLk) (Ck : SCk) (Jd : SJd) (Ld : SLd) (Pr : SPr) (rt : Nat) {r : Int32} (h : m_Kw_placeOf n x1 a0 = some r) : o_Cn E l D o_cls (o_tys ca) y_Kw_placeOf cc_Kw_placeOf rm_Kw_placeOf [.ref (ad 1), .int x1] (o_cw ad ca rt Sj a0 T1 Rd Pg Pt Mk Lk Ck Jd Ld Pr) (o_cw ad ca rt Sj a0 T1 Rd Pg Pt Mk Lk Ck Jd Ld Pr) (some (.int r)) := by
  refine o_Cn_of (by decide) (Nat.le_of_ble_eq_true rfl) ?_
  intro p e s m below meth c A ls C hD hP hS hl
  have hDD : ∀ (rt : Nat) (Sj : SSJ) (T0 : STx) (T1 : STx) (Rd : SRd) (Pg : SPg) (Pt : SPt) (Mk : SMk) (Lk : SLk) (Ck : SCk) (Jd : SJd) (Ld : SLd) (Pr : SPr), va_D A (o_cw ad ca rt Sj T0 T1 Rd Pg Pt Mk Lk Ck Jd Ld Pr) := fun _ _ _ _ _ _ _ _ _ _ _ _ _ => o_D_map hD rfl
  have hl : lv_has ls 3 [(0, .ref (ad 1)), (1, .int x1)] := hl
  unfold m_Kw_placeOf at h
  have C0 := C
  obtain ⟨hx, hb, -, -, -, hown, hts, hK, -, -⟩ := C0
  refine lv_iconst (v := (1:Int32)) hx hb d_Kw_placeOf_0 (by decide) ?_
  refine lv_istore_n (lv' := [(2, .int (1:Int32)), (0, .ref (ad 1)), (1, .int x1)]) hx hb d_Kw_placeOf_1 rfl hl (by decide) rfl (fun ls hl => ?_)
  obtain ⟨q2, hq2, h⟩ := o_bd_some h
  refine o_sim2 (AH := fun zz => o_At p l e rm_Kw_placeOf s m _ below meth c _ o_cls D A 3 2 [] (o_cw ad ca rt Sj a0 T1 Rd Pg Pt Mk Lk Ck Jd Ld Pr) [(0, .ref (ad 1)), (1, .int x1), (2, .int zz)]) (AX := fun qq => if qq.1 = 1 then o_At p l e rm_Kw_placeOf s m _ below meth c _ o_cls D A 3 26 [] (o_cw ad ca rt Sj a0 T1 Rd Pg Pt Mk Lk Ck Jd Ld Pr) [(2, .int qq.2)] else o_At p l e rm_Kw_placeOf s m _ below meth c _ o_cls D A 3 34 [] (o_cw ad ca rt Sj a0 T1 Rd Pg Pt Mk Lk Ck Jd Ld Pr) []) (fun zz qq h h0 h1 => w_Kw_placeOf_b2_0 hE C hDD n x1 a0 Sj T1 Rd Pg Pt Mk Lk Ck Jd Ld Pr rt zz qq h h0 h1) n _ q2 hq2 ?_ _ _ _ hP hS (lv_sub hl [1, 2, 0] rfl)
  by_cases c4 : q2.1 = 1
  · replace h := o_tt c4 h
    refine o_ip c4 ?_
    intro H locs ls hP hS hl
    refine lv_iload_n hx hb d_Kw_placeOf_26 rfl (lv_at hl 0 rfl) ?_
    cases h
    exact o_ri C hP hS d_Kw_placeOf_27
  replace h := o_ff c4 h
  refine o_in_ c4 ?_
  intro H locs ls hP hS hl
  refine lv_iconst (v := (0:Int32)) hx hb d_Kw_placeOf_34 (by decide) ?_
  cases h
  exact o_ri (v := (0:Int32)) C hP hS d_Kw_placeOf_35
set_option maxHeartbeats 4000000 in
set_option maxRecDepth 100000 in
theorem w_Mk_markKeyword_j29 {E : (Nat → Prop) → State → Heap → Prop} {p : Program} {l : Launch} {e : Env} {s : State} {m : MethodId} {args : Array Value} {below : List Frame} {meth : Method} {c : Code} {D : va_G} {ad kd sd vd xd : Nat → Nat} {ca : Nat → ClassId} {A : Nat → Prop} (hE : o_EK E kd sd vd xd) (C : o_Cx E p s m args meth c D o_cls (o_tys ca) "SchemaJudge$Marks" b_Mk_markKeyword (some (.object "SchemaJudge$Keyword")) 3 cc_Mk_markKeyword A) (hDD : ∀ (rt : Nat) (Sj : SSJ) (T0 : STx) (T1 : STx) (Rd : SRd) (Pg : SPg) (Pt : SPt) (Mk : SMk) (Lk : SLk) (Ck : SCk) (Jd : SJd) (Ld : SLd) (Pr : SPr), va_D A (o_cw ad ca rt Sj T0 T1 Rd Pg Pt Mk Lk Ck Jd Ld Pr)) (n : Nat) (x2 : Int32) (T0 : STx) (Mk : SMk) (Sj : SSJ) (T1 : STx) (Rd : SRd) (Pg : SPg) (Pt : SPt) (Lk : SLk) (Ck : SCk) (Jd : SJd) (Ld : SLd) (Pr : SPr) (rt : Nat) {r : Nat × SMk} (h : m_Mk_markKeyword_j29 n x2 T0 Mk = some r) : o_At p l e rm_Mk_markKeyword s m args below meth c (MQ below (o_Qx D o_cls (some (.ref (kd r.1))) (o_cw ad ca rt Sj T0 T1 Rd Pg Pt r.2 Lk Ck Jd Ld Pr) A) args s 0 0 A) o_cls D A 3 29 [] (o_cw ad ca rt Sj T0 T1 Rd Pg Pt Mk Lk Ck Jd Ld Pr) [(2, .int x2)] := by
  unfold m_Mk_markKeyword_j29 at h
  intro H locs ls hP hS hl
  have C0 := C
  obtain ⟨hx, hb, -, -, -, hown, hts, hK, -, -⟩ := C0
  refine lv_iload_n hx hb d_Mk_markKeyword_29 rfl (lv_at hl 0 rfl) ?_
  obtain ⟨q2, hq2, h⟩ := o_bd_some h
  obtain ⟨g2, h⟩ := o_gd_some h
  refine o_S (st1 := [.ref (kd q2)]) (w1 := (o_cw ad ca rt Sj T0 T1 Rd Pg Pt Mk Lk Ck Jd Ld Pr)) hE.1 C (c_Kw_numbered hE l x2 Sj T0 T1 Rd Pg Pt Mk Lk Ck Jd Ld Pr rt hq2) hP (hDD _ _ _ _ _ _ _ _ _ _ _ _ _) hS hl.1 k_4_87 k_4_88 k_1_25 k_4_89 hs_Kw_numbered rfl rfl ⟨(Nat.le_of_ble_eq_true rfl), (Nat.le_of_ble_eq_true rfl)⟩ rfl (Nat.le_of_ble_eq_true rfl) ⟨Nat.zero_le _, Nat.zero_le _⟩ rfl d_Mk_markKeyword_30 (fun H locs hP hS => ?_)
  cases h
  exact o_ra C ⟨_, rfl⟩ hP hS d_Mk_markKeyword_33
set_option maxHeartbeats 4000000 in
set_option maxRecDepth 100000 in
theorem c_Mk_markKeyword {E : (Nat → Prop) → State → Heap → Prop} {D : va_G} {ad kd sd vd xd : Nat → Nat} {ca : Nat → ClassId} (hE : o_EK E kd sd vd xd) (l : Launch) (n : Nat) (x1 : Int32) (T0 : STx) (Mk : SMk) (Sj : SSJ) (T1 : STx) (Rd : SRd) (Pg : SPg) (Pt : SPt) (Lk : SLk) (Ck : SCk) (Jd : SJd) (Ld : SLd) (Pr : SPr) (rt : Nat) {r : Nat × SMk} (h : m_Mk_markKeyword n x1 T0 Mk = some r) : o_Cn E l D o_cls (o_tys ca) y_Mk_markKeyword cc_Mk_markKeyword rm_Mk_markKeyword [.ref (ad 39), .int x1] (o_cw ad ca rt Sj T0 T1 Rd Pg Pt Mk Lk Ck Jd Ld Pr) (o_cw ad ca rt Sj T0 T1 Rd Pg Pt r.2 Lk Ck Jd Ld Pr) (some (.ref (kd r.1))) := by
  refine o_Cn_of (by decide) (Nat.le_of_ble_eq_true rfl) ?_
  intro p e s m below meth c A ls C hD hP hS hl
  have hDD : ∀ (rt : Nat) (Sj : SSJ) (T0 : STx) (T1 : STx) (Rd : SRd) (Pg : SPg) (Pt : SPt) (Mk : SMk) (Lk : SLk) (Ck : SCk) (Jd : SJd) (Ld : SLd) (Pr : SPr), va_D A (o_cw ad ca rt Sj T0 T1 Rd Pg Pt Mk Lk Ck Jd Ld Pr) := fun _ _ _ _ _ _ _ _ _ _ _ _ _ => o_D_map hD rfl
  have hl : lv_has ls 3 [(0, .ref (ad 39)), (1, .int x1)] := hl
  unfold m_Mk_markKeyword at h
  have C0 := C
  obtain ⟨hx, hb, -, -, -, hown, hts, hK, -, -⟩ := C0
  refine lv_aload_n hx hb d_Mk_markKeyword_0 rfl (lv_at hl 0 rfl) ?_
  refine o_get (v := .ref (ad 1)) C in_Mk hP 39 cw_39 rfl 0 (by decide) k_1_206 rfl rfl d_Mk_markKeyword_1 ?_
  refine lv_iload_n hx hb d_Mk_markKeyword_4 rfl (lv_at hl 1 rfl) ?_
  refine lv_iconst (v := (1:Int32)) hx hb d_Mk_markKeyword_5 (by decide) ?_
  refine lv_isub hx hb d_Mk_markKeyword_6 ?_
  obtain ⟨q1, hq1, h⟩ := o_bd_some h
  refine o_S (st1 := [.int q1]) (w1 := (o_cw ad ca rt Sj T0 T1 Rd Pg Pt Mk Lk Ck Jd Ld Pr)) hE.1 C (c_Kw_placeOf_0 hE l n (x1 - (1:Int32)) T0 Sj T1 Rd Pg Pt Mk Lk Ck Jd Ld Pr rt hq1) hP (hDD _ _ _ _ _ _ _ _ _ _ _ _ _) hS hl.1 k_4_76 k_4_77 k_1_25 k_4_78 hs_Kw_placeOf rfl rfl ⟨(Nat.le_of_ble_eq_true rfl), (Nat.le_of_ble_eq_true rfl)⟩ rfl (Nat.le_of_ble_eq_true rfl) ⟨Nat.zero_le _, Nat.zero_le _⟩ rfl d_Mk_markKeyword_7 (fun H locs hP hS => ?_)
  refine lv_istore_n (lv' := [(2, .int q1), (0, .ref (ad 39)), (1, .int x1)]) hx hb d_Mk_markKeyword_10 rfl hl (by decide) rfl (fun ls hl => ?_)
  refine lv_iload_n hx hb d_Mk_markKeyword_11 rfl (lv_at hl 2 rfl) ?_
  refine lv_if_lt (tgt := 29) hx hb d_Mk_markKeyword_12 (by decide) (fun c1 => ?_) (fun c1 => ?_)
  · replace h := o_tt c1 h
    exact w_Mk_markKeyword_j29 hE C hDD n q1 T0 Mk Sj T1 Rd Pg Pt Lk Ck Jd Ld Pr rt h _ _ _ hP hS (lv_sub hl [0] rfl)
  · replace h := o_ff c1 h
    refine lv_iload_n hx hb d_Mk_markKeyword_15 rfl (lv_at hl 2 rfl) ?_
    refine lv_sipush (v := (1000:Int32)) hx hb d_Mk_markKeyword_16 (by decide) ?_
    refine lv_icmp_ge (tgt := 29) hx hb d_Mk_markKeyword_19 (by decide) (fun c3 => ?_) (fun c3 => ?_)
    · replace h := o_tt c3 h
      exact w_Mk_markKeyword_j29 hE C hDD n q1 T0 Mk Sj T1 Rd Pg Pt Lk Ck Jd Ld Pr rt h _ _ _ hP hS (lv_sub hl [0] rfl)
    · replace h := o_ff c3 h
      refine lv_aload_n hx hb d_Mk_markKeyword_22 rfl (lv_at hl 1 rfl) ?_
      refine o_get (v := .ref (ad 40)) C in_Mk hP 39 cw_39 rfl 1 (by decide) k_1_207 rfl rfl d_Mk_markKeyword_23 ?_
      refine lv_iload_n hx hb d_Mk_markKeyword_26 rfl (lv_at hl 2 rfl) ?_
      refine lv_iload_n hx hb d_Mk_markKeyword_27 rfl (lv_at hl 0 rfl) ?_
      obtain ⟨g4, h⟩ := o_gd_some h
      refine o_iast (f := (Mk_keywords Mk)) (w1 := (o_cw ad ca rt Sj T0 T1 Rd Pg Pt (Mk_mk (upd (Mk_keywords Mk) x1.toNatClampNeg q1) (Mk_schemas Mk) (Mk_targets Mk)) Lk Ck Jd Ld Pr)) C hP (hDD _ _ _ _ _ _ _ _ _ _ _ _ _) hS 40 33 cw_40 rfl g4 rfl d_Mk_markKeyword_28 (fun H locs hP hS => ?_)
      exact w_Mk_markKeyword_j29 hE C hDD n q1 T0 (Mk_mk (upd (Mk_keywords Mk) x1.toNatClampNeg q1) (Mk_schemas Mk) (Mk_targets Mk)) Sj T1 Rd Pg Pt Lk Ck Jd Ld Pr rt h _ _ _ hP hS (lv_sub hl [0] rfl)
set_option maxHeartbeats 4000000 in
set_option maxRecDepth 100000 in
theorem c_Tx_size_0 {E : (Nat → Prop) → State → Heap → Prop} {D : va_G} {ad kd sd vd xd : Nat → Nat} {ca : Nat → ClassId} (hE : o_EK E kd sd vd xd) (l : Launch) (x1 : Int32) (a0 : STx) (Sj : SSJ) (T1 : STx) (Rd : SRd) (Pg : SPg) (Pt : SPt) (Mk : SMk) (Lk : SLk) (Ck : SCk) (Jd : SJd) (Ld : SLd) (Pr : SPr) (rt : Nat) {r : Int32} (h : m_Tx_size x1 a0 = some r) : o_Cn E l D o_cls (o_tys ca) y_Tx_size cc_Tx_size rm_Tx_size [.ref (ad 1), .int x1] (o_cw ad ca rt Sj a0 T1 Rd Pg Pt Mk Lk Ck Jd Ld Pr) (o_cw ad ca rt Sj a0 T1 Rd Pg Pt Mk Lk Ck Jd Ld Pr) (some (.int r)) := by
  refine o_Cn_of (by decide) (Nat.le_of_ble_eq_true rfl) ?_
  intro p e s m below meth c A ls C hD hP hS hl
  have hDD : ∀ (rt : Nat) (Sj : SSJ) (T0 : STx) (T1 : STx) (Rd : SRd) (Pg : SPg) (Pt : SPt) (Mk : SMk) (Lk : SLk) (Ck : SCk) (Jd : SJd) (Ld : SLd) (Pr : SPr), va_D A (o_cw ad ca rt Sj T0 T1 Rd Pg Pt Mk Lk Ck Jd Ld Pr) := fun _ _ _ _ _ _ _ _ _ _ _ _ _ => o_D_map hD rfl
  have hl : lv_has ls 2 [(0, .ref (ad 1)), (1, .int x1)] := hl
  unfold m_Tx_size at h
  have C0 := C
  obtain ⟨hx, hb, -, -, -, hown, hts, hK, -, -⟩ := C0
  refine lv_iload_n hx hb d_Tx_size_0 rfl (lv_at hl 1 rfl) ?_
  refine lv_if_lt (tgt := 21) hx hb d_Tx_size_1 (by decide) (fun c1 => ?_) (fun c1 => ?_)
  · replace h := o_tt c1 h
    refine lv_iconst (v := (0:Int32)) hx hb d_Tx_size_21 (by decide) ?_
    cases h
    exact o_ri (v := (0:Int32)) C hP hS d_Tx_size_22
  · replace h := o_ff c1 h
    refine lv_iload_n hx hb d_Tx_size_4 rfl (lv_at hl 1 rfl) ?_
    refine lv_aload_n hx hb d_Tx_size_5 rfl (lv_at hl 0 rfl) ?_
    refine o_get (v := .int (Tx_total a0)) C in_Tx hP 1 cw_1 rfl 10 (by decide) k_1_56 rfl rfl d_Tx_size_6 ?_
    refine lv_icmp_ge (tgt := 21) hx hb d_Tx_size_9 (by decide) (fun c2 => ?_) (fun c2 => ?_)
    · replace h := o_tt c2 h
      refine lv_iconst (v := (0:Int32)) hx hb d_Tx_size_21 (by decide) ?_
      cases h
      exact o_ri (v := (0:Int32)) C hP hS d_Tx_size_22
    · replace h := o_ff c2 h
      refine lv_aload_n hx hb d_Tx_size_12 rfl (lv_at hl 0 rfl) ?_
      refine o_get (v := .ref (ad 4)) C in_Tx hP 1 cw_1 rfl 2 (by decide) k_1_48 rfl rfl d_Tx_size_13 ?_
      refine lv_iload_n hx hb d_Tx_size_16 rfl (lv_at hl 1 rfl) ?_
      obtain ⟨g3, h⟩ := o_gd_some h
      refine o_iald (f := (Tx_sizes a0)) C hP 4 2 cw_4 rfl g3 d_Tx_size_17 ?_
      refine lv_goto (tgt := 22) hx hb d_Tx_size_18 (by decide) ?_
      cases h
      exact o_ri (v := ((Tx_sizes a0) x1.toNatClampNeg)) C hP hS d_Tx_size_22
set_option maxHeartbeats 4000000 in
set_option maxRecDepth 100000 in
theorem w_Tx_nextChild_j22_0 {E : (Nat → Prop) → State → Heap → Prop} {p : Program} {l : Launch} {e : Env} {s : State} {m : MethodId} {args : Array Value} {below : List Frame} {meth : Method} {c : Code} {D : va_G} {ad kd sd vd xd : Nat → Nat} {ca : Nat → ClassId} {A : Nat → Prop} (hE : o_EK E kd sd vd xd) (C : o_Cx E p s m args meth c D o_cls (o_tys ca) "SchemaJudge$Text" b_Tx_nextChild (some .int) 3 cc_Tx_nextChild A) (hDD : ∀ (rt : Nat) (Sj : SSJ) (T0 : STx) (T1 : STx) (Rd : SRd) (Pg : SPg) (Pt : SPt) (Mk : SMk) (Lk : SLk) (Ck : SCk) (Jd : SJd) (Ld : SLd) (Pr : SPr), va_D A (o_cw ad ca rt Sj T0 T1 Rd Pg Pt Mk Lk Ck Jd Ld Pr)) (x1 : Int32) (y0 : Int32) (a0 : STx) (Sj : SSJ) (T1 : STx) (Rd : SRd) (Pg : SPg) (Pt : SPt) (Mk : SMk) (Lk : SLk) (Ck : SCk) (Jd : SJd) (Ld : SLd) (Pr : SPr) (rt : Nat) {r : Int32} (h : m_Tx_nextChild_j22 x1 y0 a0 = some r) : o_At p l e rm_Tx_nextChild s m args below meth c (MQ below (o_Qx D o_cls (some (.int r)) (o_cw ad ca rt Sj a0 T1 Rd Pg Pt Mk Lk Ck Jd Ld Pr) A) args s 0 0 A) o_cls D A 3 22 [.int y0] (o_cw ad ca rt Sj a0 T1 Rd Pg Pt Mk Lk Ck Jd Ld Pr) [(0, .ref (ad 1)), (1, .int x1)] := by
  unfold m_Tx_nextChild_j22 at h
  intro H locs ls hP hS hl
  have C0 := C
  obtain ⟨hx, hb, -, -, -, hown, hts, hK, -, -⟩ := C0
  refine lv_istore_n (lv' := [(2, .int y0), (0, .ref (ad 1)), (1, .int x1)]) hx hb d_Tx_nextChild_22 rfl hl (by decide) rfl (fun ls hl => ?_)
  refine lv_iload_n hx hb d_Tx_nextChild_23 rfl (lv_at hl 0 rfl) ?_
  refine lv_if_lt (tgt := 52) hx hb d_Tx_nextChild_24 (by decide) (fun c2 => ?_) (fun c2 => ?_)
  · replace h := o_tt c2 h
    refine lv_iconst (v := (-1:Int32)) hx hb d_Tx_nextChild_52 (by decide) ?_
    cases h
    exact o_ri (v := (-1:Int32)) C hP hS d_Tx_nextChild_53
  · replace h := o_ff c2 h
    refine lv_iload_n hx hb d_Tx_nextChild_27 rfl (lv_at hl 0 rfl) ?_
    refine lv_aload_n hx hb d_Tx_nextChild_28 rfl (lv_at hl 1 rfl) ?_
    refine o_get (v := .int (Tx_total a0)) C in_Tx hP 1 cw_1 rfl 10 (by decide) k_1_56 rfl rfl d_Tx_nextChild_29 ?_
    refine lv_icmp_ge (tgt := 52) hx hb d_Tx_nextChild_32 (by decide) (fun c3 => ?_) (fun c3 => ?_)
    · replace h := o_tt c3 h
      refine lv_iconst (v := (-1:Int32)) hx hb d_Tx_nextChild_52 (by decide) ?_
      cases h
      exact o_ri (v := (-1:Int32)) C hP hS d_Tx_nextChild_53
    · replace h := o_ff c3 h
      refine lv_aload_n hx hb d_Tx_nextChild_35 rfl (lv_at hl 1 rfl) ?_
      refine o_get (v := .ref (ad 9)) C in_Tx hP 1 cw_1 rfl 7 (by decide) k_1_53 rfl rfl d_Tx_nextChild_36 ?_
      refine lv_iload_n hx hb d_Tx_nextChild_39 rfl (lv_at hl 2 rfl) ?_
      obtain ⟨g4, h⟩ := o_gd_some h
      refine o_iald (f := (Tx_slots a0)) C hP 9 7 cw_9 rfl g4 d_Tx_nextChild_40 ?_
      refine lv_iconst (v := (1:Int32)) hx hb d_Tx_nextChild_41 (by decide) ?_
      refine lv_iadd hx hb d_Tx_nextChild_42 ?_
      refine lv_aload_n hx hb d_Tx_nextChild_43 rfl (lv_at hl 1 rfl) ?_
      refine o_get (v := .ref (ad 4)) C in_Tx hP 1 cw_1 rfl 2 (by decide) k_1_48 rfl rfl d_Tx_nextChild_44 ?_
      refine lv_iload_n hx hb d_Tx_nextChild_47 rfl (lv_at hl 0 rfl) ?_
      obtain ⟨g5, h⟩ := o_gd_some h
      refine o_iald (f := (Tx_sizes a0)) C hP 4 2 cw_4 rfl g5 d_Tx_nextChild_48 ?_
      refine lv_icmp_lt (tgt := 54) hx hb d_Tx_nextChild_49 (by decide) (fun c6 => ?_) (fun c6 => ?_)
      · replace h := o_tt c6 h
        refine lv_aload_n hx hb d_Tx_nextChild_54 rfl (lv_at hl 1 rfl) ?_
        refine o_get (v := .ref (ad 2)) C in_Tx hP 1 cw_1 rfl 0 (by decide) k_1_46 rfl rfl d_Tx_nextChild_55 ?_
        refine lv_iload_n hx hb d_Tx_nextChild_58 rfl (lv_at hl 0 rfl) ?_
        obtain ⟨g7, h⟩ := o_gd_some h
        refine o_iald (f := (Tx_kinds a0)) C hP 2 0 cw_2 rfl g7 d_Tx_nextChild_59 ?_
        refine lv_iconst (v := (5:Int32)) hx hb d_Tx_nextChild_60 (by decide) ?_
        refine lv_icmp_ne (tgt := 73) hx hb d_Tx_nextChild_61 (by decide) (fun c8 => ?_) (fun c8 => ?_)
        · replace h := o_ff c8 h
          refine lv_aload_n hx hb d_Tx_nextChild_73 rfl (lv_at hl 1 rfl) ?_
          refine o_get (v := .ref (ad 8)) C in_Tx hP 1 cw_1 rfl 6 (by decide) k_1_52 rfl rfl d_Tx_nextChild_74 ?_
          refine lv_iload_n hx hb d_Tx_nextChild_77 rfl (lv_at hl 2 rfl) ?_
          obtain ⟨g9, h⟩ := o_gd_some h
          refine o_iald (f := (Tx_afters a0)) C hP 8 6 cw_8 rfl g9 d_Tx_nextChild_78 ?_
          refine lv_iconst (v := (1:Int32)) hx hb d_Tx_nextChild_79 (by decide) ?_
          refine lv_iadd hx hb d_Tx_nextChild_80 ?_
          cases h
          exact o_ri (v := (((Tx_afters a0) x1.toNatClampNeg) + (1:Int32))) C hP hS d_Tx_nextChild_81
        · replace h := o_tt c8 h
          refine lv_aload_n hx hb d_Tx_nextChild_64 rfl (lv_at hl 1 rfl) ?_
          refine o_get (v := .ref (ad 8)) C in_Tx hP 1 cw_1 rfl 6 (by decide) k_1_52 rfl rfl d_Tx_nextChild_65 ?_
          refine lv_iload_n hx hb d_Tx_nextChild_68 rfl (lv_at hl 2 rfl) ?_
          obtain ⟨g10, h⟩ := o_gd_some h
          refine o_iald (f := (Tx_afters a0)) C hP 8 6 cw_8 rfl g10 d_Tx_nextChild_69 ?_
          refine lv_goto (tgt := 81) hx hb d_Tx_nextChild_70 (by decide) ?_
          cases h
          exact o_ri (v := ((Tx_afters a0) x1.toNatClampNeg)) C hP hS d_Tx_nextChild_81
      · replace h := o_ff c6 h
        refine lv_iconst (v := (-1:Int32)) hx hb d_Tx_nextChild_52 (by decide) ?_
        cases h
        exact o_ri (v := (-1:Int32)) C hP hS d_Tx_nextChild_53
set_option maxHeartbeats 4000000 in
set_option maxRecDepth 100000 in
theorem c_Tx_nextChild_0 {E : (Nat → Prop) → State → Heap → Prop} {D : va_G} {ad kd sd vd xd : Nat → Nat} {ca : Nat → ClassId} (hE : o_EK E kd sd vd xd) (l : Launch) (x1 : Int32) (a0 : STx) (Sj : SSJ) (T1 : STx) (Rd : SRd) (Pg : SPg) (Pt : SPt) (Mk : SMk) (Lk : SLk) (Ck : SCk) (Jd : SJd) (Ld : SLd) (Pr : SPr) (rt : Nat) {r : Int32} (h : m_Tx_nextChild x1 a0 = some r) : o_Cn E l D o_cls (o_tys ca) y_Tx_nextChild cc_Tx_nextChild rm_Tx_nextChild [.ref (ad 1), .int x1] (o_cw ad ca rt Sj a0 T1 Rd Pg Pt Mk Lk Ck Jd Ld Pr) (o_cw ad ca rt Sj a0 T1 Rd Pg Pt Mk Lk Ck Jd Ld Pr) (some (.int r)) := by
  refine o_Cn_of (by decide) (Nat.le_of_ble_eq_true rfl) ?_
  intro p e s m below meth c A ls C hD hP hS hl
  have hDD : ∀ (rt : Nat) (Sj : SSJ) (T0 : STx) (T1 : STx) (Rd : SRd) (Pg : SPg) (Pt : SPt) (Mk : SMk) (Lk : SLk) (Ck : SCk) (Jd : SJd) (Ld : SLd) (Pr : SPr), va_D A (o_cw ad ca rt Sj T0 T1 Rd Pg Pt Mk Lk Ck Jd Ld Pr) := fun _ _ _ _ _ _ _ _ _ _ _ _ _ => o_D_map hD rfl
  have hl : lv_has ls 3 [(0, .ref (ad 1)), (1, .int x1)] := hl
  unfold m_Tx_nextChild at h
  have C0 := C
  obtain ⟨hx, hb, -, -, -, hown, hts, hK, -, -⟩ := C0
  refine lv_iload_n hx hb d_Tx_nextChild_0 rfl (lv_at hl 1 rfl) ?_
  refine lv_if_lt (tgt := 21) hx hb d_Tx_nextChild_1 (by decide) (fun c1 => ?_) (fun c1 => ?_)
  · replace h := o_tt c1 h
    refine lv_iconst (v := (-1:Int32)) hx hb d_Tx_nextChild_21 (by decide) ?_
    exact w_Tx_nextChild_j22_0 hE C hDD x1 (-1:Int32) a0 Sj T1 Rd Pg Pt Mk Lk Ck Jd Ld Pr rt h _ _ _ hP hS (lv_sub hl [0, 1] rfl)
  · replace h := o_ff c1 h
    refine lv_iload_n hx hb d_Tx_nextChild_4 rfl (lv_at hl 1 rfl) ?_
    refine lv_aload_n hx hb d_Tx_nextChild_5 rfl (lv_at hl 0 rfl) ?_
    refine o_get (v := .int (Tx_total a0)) C in_Tx hP 1 cw_1 rfl 10 (by decide) k_1_56 rfl rfl d_Tx_nextChild_6 ?_
    refine lv_icmp_ge (tgt := 21) hx hb d_Tx_nextChild_9 (by decide) (fun c11 => ?_) (fun c11 => ?_)
    · replace h := o_tt c11 h
      refine lv_iconst (v := (-1:Int32)) hx hb d_Tx_nextChild_21 (by decide) ?_
      exact w_Tx_nextChild_j22_0 hE C hDD x1 (-1:Int32) a0 Sj T1 Rd Pg Pt Mk Lk Ck Jd Ld Pr rt h _ _ _ hP hS (lv_sub hl [0, 1] rfl)
    · replace h := o_ff c11 h
      refine lv_aload_n hx hb d_Tx_nextChild_12 rfl (lv_at hl 0 rfl) ?_
      refine o_get (v := .ref (ad 5)) C in_Tx hP 1 cw_1 rfl 3 (by decide) k_1_49 rfl rfl d_Tx_nextChild_13 ?_
      refine lv_iload_n hx hb d_Tx_nextChild_16 rfl (lv_at hl 1 rfl) ?_
      obtain ⟨g12, h⟩ := o_gd_some h
      refine o_iald (f := (Tx_parents a0)) C hP 5 3 cw_5 rfl g12 d_Tx_nextChild_17 ?_
      refine lv_goto (tgt := 22) hx hb d_Tx_nextChild_18 (by decide) ?_
      exact w_Tx_nextChild_j22_0 hE C hDD x1 ((Tx_parents a0) x1.toNatClampNeg) a0 Sj T1 Rd Pg Pt Mk Lk Ck Jd Ld Pr rt h _ _ _ hP hS (lv_sub hl [0, 1] rfl)
set_option maxHeartbeats 4000000 in
set_option maxRecDepth 100000 in
theorem c_Tx_firstChild_0 {E : (Nat → Prop) → State → Heap → Prop} {D : va_G} {ad kd sd vd xd : Nat → Nat} {ca : Nat → ClassId} (hE : o_EK E kd sd vd xd) (l : Launch) (x1 : Int32) (a0 : STx) (Sj : SSJ) (T1 : STx) (Rd : SRd) (Pg : SPg) (Pt : SPt) (Mk : SMk) (Lk : SLk) (Ck : SCk) (Jd : SJd) (Ld : SLd) (Pr : SPr) (rt : Nat) {r : Int32} (h : m_Tx_firstChild x1 a0 = some r) : o_Cn E l D o_cls (o_tys ca) y_Tx_firstChild cc_Tx_firstChild rm_Tx_firstChild [.ref (ad 1), .int x1] (o_cw ad ca rt Sj a0 T1 Rd Pg Pt Mk Lk Ck Jd Ld Pr) (o_cw ad ca rt Sj a0 T1 Rd Pg Pt Mk Lk Ck Jd Ld Pr) (some (.int r)) := by
  refine o_Cn_of (by decide) (Nat.le_of_ble_eq_true rfl) ?_
  intro p e s m below meth c A ls C hD hP hS hl
  have hDD : ∀ (rt : Nat) (Sj : SSJ) (T0 : STx) (T1 : STx) (Rd : SRd) (Pg : SPg) (Pt : SPt) (Mk : SMk) (Lk : SLk) (Ck : SCk) (Jd : SJd) (Ld : SLd) (Pr : SPr), va_D A (o_cw ad ca rt Sj T0 T1 Rd Pg Pt Mk Lk Ck Jd Ld Pr) := fun _ _ _ _ _ _ _ _ _ _ _ _ _ => o_D_map hD rfl
  have hl : lv_has ls 2 [(0, .ref (ad 1)), (1, .int x1)] := hl
  unfold m_Tx_firstChild at h
  have C0 := C
  obtain ⟨hx, hb, -, -, -, hown, hts, hK, -, -⟩ := C0
  refine lv_iload_n hx hb d_Tx_firstChild_0 rfl (lv_at hl 1 rfl) ?_
  refine lv_if_lt (tgt := 31) hx hb d_Tx_firstChild_1 (by decide) (fun c1 => ?_) (fun c1 => ?_)
  · replace h := o_tt c1 h
    refine lv_iconst (v := (-1:Int32)) hx hb d_Tx_firstChild_31 (by decide) ?_
    cases h
    exact o_ri (v := (-1:Int32)) C hP hS d_Tx_firstChild_32
  · replace h := o_ff c1 h
    refine lv_iload_n hx hb d_Tx_firstChild_4 rfl (lv_at hl 1 rfl) ?_
    refine lv_aload_n hx hb d_Tx_firstChild_5 rfl (lv_at hl 0 rfl) ?_
    refine o_get (v := .int (Tx_total a0)) C in_Tx hP 1 cw_1 rfl 10 (by decide) k_1_56 rfl rfl d_Tx_firstChild_6 ?_
    refine lv_icmp_ge (tgt := 31) hx hb d_Tx_firstChild_9 (by decide) (fun c2 => ?_) (fun c2 => ?_)
    · replace h := o_tt c2 h
      refine lv_iconst (v := (-1:Int32)) hx hb d_Tx_firstChild_31 (by decide) ?_
      cases h
      exact o_ri (v := (-1:Int32)) C hP hS d_Tx_firstChild_32
    · replace h := o_ff c2 h
      refine lv_aload_n hx hb d_Tx_firstChild_12 rfl (lv_at hl 0 rfl) ?_
      refine o_get (v := .ref (ad 4)) C in_Tx hP 1 cw_1 rfl 2 (by decide) k_1_48 rfl rfl d_Tx_firstChild_13 ?_
      refine lv_iload_n hx hb d_Tx_firstChild_16 rfl (lv_at hl 1 rfl) ?_
      obtain ⟨g3, h⟩ := o_gd_some h
      refine o_iald (f := (Tx_sizes a0)) C hP 4 2 cw_4 rfl g3 d_Tx_firstChild_17 ?_
      refine lv_if_eq (tgt := 31) hx hb d_Tx_firstChild_18 (by decide) (fun c4 => ?_) (fun c4 => ?_)
      · replace h := o_tt c4 h
        refine lv_iconst (v := (-1:Int32)) hx hb d_Tx_firstChild_31 (by decide) ?_
        cases h
        exact o_ri (v := (-1:Int32)) C hP hS d_Tx_firstChild_32
      · replace h := o_ff c4 h
        refine lv_aload_n hx hb d_Tx_firstChild_21 rfl (lv_at hl 0 rfl) ?_
        refine o_get (v := .ref (ad 2)) C in_Tx hP 1 cw_1 rfl 0 (by decide) k_1_46 rfl rfl d_Tx_firstChild_22 ?_
        refine lv_iload_n hx hb d_Tx_firstChild_25 rfl (lv_at hl 1 rfl) ?_
        obtain ⟨g5, h⟩ := o_gd_some h
        refine o_iald (f := (Tx_kinds a0)) C hP 2 0 cw_2 rfl g5 d_Tx_firstChild_26 ?_
        refine lv_iconst (v := (5:Int32)) hx hb d_Tx_firstChild_27 (by decide) ?_
        refine lv_icmp_ge (tgt := 33) hx hb d_Tx_firstChild_28 (by decide) (fun c6 => ?_) (fun c6 => ?_)
        · replace h := o_tt c6 h
          refine lv_aload_n hx hb d_Tx_firstChild_33 rfl (lv_at hl 0 rfl) ?_
          refine o_get (v := .ref (ad 2)) C in_Tx hP 1 cw_1 rfl 0 (by decide) k_1_46 rfl rfl d_Tx_firstChild_34 ?_
          refine lv_iload_n hx hb d_Tx_firstChild_37 rfl (lv_at hl 1 rfl) ?_
          obtain ⟨g7, h⟩ := o_gd_some h
          refine o_iald (f := (Tx_kinds a0)) C hP 2 0 cw_2 rfl g7 d_Tx_firstChild_38 ?_
          refine lv_iconst (v := (5:Int32)) hx hb d_Tx_firstChild_39 (by decide) ?_
          refine lv_icmp_ne (tgt := 49) hx hb d_Tx_firstChild_40 (by decide) (fun c8 => ?_) (fun c8 => ?_)
          · replace h := o_ff c8 h
            refine lv_iload_n hx hb d_Tx_firstChild_49 rfl (lv_at hl 1 rfl) ?_
            refine lv_iconst (v := (2:Int32)) hx hb d_Tx_firstChild_50 (by decide) ?_
            refine lv_iadd hx hb d_Tx_firstChild_51 ?_
            cases h
            exact o_ri (v := (x1 + (2:Int32))) C hP hS d_Tx_firstChild_52
          · replace h := o_tt c8 h
            refine lv_iload_n hx hb d_Tx_firstChild_43 rfl (lv_at hl 1 rfl) ?_
            refine lv_iconst (v := (1:Int32)) hx hb d_Tx_firstChild_44 (by decide) ?_
            refine lv_iadd hx hb d_Tx_firstChild_45 ?_
            refine lv_goto (tgt := 52) hx hb d_Tx_firstChild_46 (by decide) ?_
            cases h
            exact o_ri (v := (x1 + (1:Int32))) C hP hS d_Tx_firstChild_52
        · replace h := o_ff c6 h
          refine lv_iconst (v := (-1:Int32)) hx hb d_Tx_firstChild_31 (by decide) ?_
          cases h
          exact o_ri (v := (-1:Int32)) C hP hS d_Tx_firstChild_32
