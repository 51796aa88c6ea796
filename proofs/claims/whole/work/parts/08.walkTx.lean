set_option maxHeartbeats 4000000 in
set_option maxRecDepth 100000 in
theorem c_Tx_clear_0 {E : (Nat → Prop) → State → Heap → Prop} {D : va_G} {ad : Nat → Nat} {ca : Nat → ClassId} (hE : o_Ek E) (l : Launch)  (a0 : STx) (Sj : SSJ) (T1 : STx) (Rd : SRd) (Pg : SPg) (Pt : SPt) (Mk : SMk) (Lk : SLk) (Ck : SCk) (Jd : SJd) (Ld : SLd) (Pr : SPr) (rt : Nat) {r : STx} (h : m_Tx_clear a0 = some r) : o_Cn E l D o_cls (o_tys ca) y_Tx_clear cc_Tx_clear rm_Tx_clear [.ref (ad 1)] (o_cw ad ca rt Sj a0 T1 Rd Pg Pt Mk Lk Ck Jd Ld Pr) (o_cw ad ca rt Sj r T1 Rd Pg Pt Mk Lk Ck Jd Ld Pr) none := by
  refine o_Cn_of (by decide) (Nat.le_of_ble_eq_true rfl) ?_
  intro p e s m below meth c A ls C hD hP hS hl
  have hDD : ∀ (rt : Nat) (Sj : SSJ) (T0 : STx) (T1 : STx) (Rd : SRd) (Pg : SPg) (Pt : SPt) (Mk : SMk) (Lk : SLk) (Ck : SCk) (Jd : SJd) (Ld : SLd) (Pr : SPr), va_D A (o_cw ad ca rt Sj T0 T1 Rd Pg Pt Mk Lk Ck Jd Ld Pr) := fun _ _ _ _ _ _ _ _ _ _ _ _ _ => o_D_map hD rfl
  have hl : lv_has ls 1 [(0, .ref (ad 1))] := hl
  unfold m_Tx_clear at h
  have C0 := C
  obtain ⟨hx, hb, -, -, -, hown, hts, hK, -, -⟩ := C0
  refine lv_aload_n hx hb d_Tx_clear_0 rfl (lv_at hl 0 rfl) ?_
  refine lv_iconst (v := (0:Int32)) hx hb d_Tx_clear_1 (by decide) ?_
  refine o_put (v := .int (0:Int32)) (ty := .int) (w1 := (o_cw ad ca rt Sj (Tx_mk (Tx_kinds a0) (Tx_places a0) (Tx_sizes a0) (Tx_parents a0) (Tx_exponents a0) (Tx_starts a0) (Tx_afters a0) (Tx_slots a0) (Tx_negatives a0) (Tx_cells a0) (0:Int32) (Tx_used a0) (Tx_characters a0)) T1 Rd Pg Pt Mk Lk Ck Jd Ld Pr)) C in_Tx t_Tx t_Tx_ok n_Tx hP (hDD _ _ _ _ _ _ _ _ _ _ _ _ _) hS 1 cw_1 rfl 10 (by decide) k_1_56 rfl rfl (by decide +kernel) rfl rfl (Nat.le_of_ble_eq_true rfl) rfl d_Tx_clear_2 (fun H locs hP hS => ?_)
  refine lv_aload_n hx hb d_Tx_clear_5 rfl (lv_at hl 0 rfl) ?_
  refine lv_iconst (v := (0:Int32)) hx hb d_Tx_clear_6 (by decide) ?_
  refine o_put (v := .int (0:Int32)) (ty := .int) (w1 := (o_cw ad ca rt Sj (Tx_mk (Tx_kinds a0) (Tx_places a0) (Tx_sizes a0) (Tx_parents a0) (Tx_exponents a0) (Tx_starts a0) (Tx_afters a0) (Tx_slots a0) (Tx_negatives a0) (Tx_cells a0) (0:Int32) (0:Int32) (Tx_characters a0)) T1 Rd Pg Pt Mk Lk Ck Jd Ld Pr)) C in_Tx t_Tx t_Tx_ok n_Tx hP (hDD _ _ _ _ _ _ _ _ _ _ _ _ _) hS 1 cw_1 rfl 11 (by decide) k_1_57 rfl rfl (by decide +kernel) rfl rfl (Nat.le_of_ble_eq_true rfl) rfl d_Tx_clear_7 (fun H locs hP hS => ?_)
  refine lv_aload_n hx hb d_Tx_clear_10 rfl (lv_at hl 0 rfl) ?_
  refine lv_iconst (v := (0:Int32)) hx hb d_Tx_clear_11 (by decide) ?_
  refine o_put (v := .int (0:Int32)) (ty := .int) (w1 := (o_cw ad ca rt Sj (Tx_mk (Tx_kinds a0) (Tx_places a0) (Tx_sizes a0) (Tx_parents a0) (Tx_exponents a0) (Tx_starts a0) (Tx_afters a0) (Tx_slots a0) (Tx_negatives a0) (Tx_cells a0) (0:Int32) (0:Int32) (0:Int32)) T1 Rd Pg Pt Mk Lk Ck Jd Ld Pr)) C in_Tx t_Tx t_Tx_ok n_Tx hP (hDD _ _ _ _ _ _ _ _ _ _ _ _ _) hS 1 cw_1 rfl 12 (by decide) k_1_58 rfl rfl (by decide +kernel) rfl rfl (Nat.le_of_ble_eq_true rfl) rfl d_Tx_clear_12 (fun H locs hP hS => ?_)
  cases h
  exact o_rv C hP hS d_Tx_clear_15
set_option maxHeartbeats 4000000 in
set_option maxRecDepth 100000 in
theorem c_Tx_clear_1 {E : (Nat → Prop) → State → Heap → Prop} {D : va_G} {ad : Nat → Nat} {ca : Nat → ClassId} (hE : o_Ek E) (l : Launch)  (a0 : STx) (Sj : SSJ) (T0 : STx) (Rd : SRd) (Pg : SPg) (Pt : SPt) (Mk : SMk) (Lk : SLk) (Ck : SCk) (Jd : SJd) (Ld : SLd) (Pr : SPr) (rt : Nat) {r : STx} (h : m_Tx_clear a0 = some r) : o_Cn E l D o_cls (o_tys ca) y_Tx_clear cc_Tx_clear rm_Tx_clear [.ref (ad 12)] (o_cw ad ca rt Sj T0 a0 Rd Pg Pt Mk Lk Ck Jd Ld Pr) (o_cw ad ca rt Sj T0 r Rd Pg Pt Mk Lk Ck Jd Ld Pr) none := by
  refine o_Cn_of (by decide) (Nat.le_of_ble_eq_true rfl) ?_
  intro p e s m below meth c A ls C hD hP hS hl
  have hDD : ∀ (rt : Nat) (Sj : SSJ) (T0 : STx) (T1 : STx) (Rd : SRd) (Pg : SPg) (Pt : SPt) (Mk : SMk) (Lk : SLk) (Ck : SCk) (Jd : SJd) (Ld : SLd) (Pr : SPr), va_D A (o_cw ad ca rt Sj T0 T1 Rd Pg Pt Mk Lk Ck Jd Ld Pr) := fun _ _ _ _ _ _ _ _ _ _ _ _ _ => o_D_map hD rfl
  have hl : lv_has ls 1 [(0, .ref (ad 12))] := hl
  unfold m_Tx_clear at h
  have C0 := C
  obtain ⟨hx, hb, -, -, -, hown, hts, hK, -, -⟩ := C0
  refine lv_aload_n hx hb d_Tx_clear_0 rfl (lv_at hl 0 rfl) ?_
  refine lv_iconst (v := (0:Int32)) hx hb d_Tx_clear_1 (by decide) ?_
  refine o_put (v := .int (0:Int32)) (ty := .int) (w1 := (o_cw ad ca rt Sj T0 (Tx_mk (Tx_kinds a0) (Tx_places a0) (Tx_sizes a0) (Tx_parents a0) (Tx_exponents a0) (Tx_starts a0) (Tx_afters a0) (Tx_slots a0) (Tx_negatives a0) (Tx_cells a0) (0:Int32) (Tx_used a0) (Tx_characters a0)) Rd Pg Pt Mk Lk Ck Jd Ld Pr)) C in_Tx t_Tx t_Tx_ok n_Tx hP (hDD _ _ _ _ _ _ _ _ _ _ _ _ _) hS 12 cw_12 rfl 10 (by decide) k_1_56 rfl rfl (by decide +kernel) rfl rfl (Nat.le_of_ble_eq_true rfl) rfl d_Tx_clear_2 (fun H locs hP hS => ?_)
  refine lv_aload_n hx hb d_Tx_clear_5 rfl (lv_at hl 0 rfl) ?_
  refine lv_iconst (v := (0:Int32)) hx hb d_Tx_clear_6 (by decide) ?_
  refine o_put (v := .int (0:Int32)) (ty := .int) (w1 := (o_cw ad ca rt Sj T0 (Tx_mk (Tx_kinds a0) (Tx_places a0) (Tx_sizes a0) (Tx_parents a0) (Tx_exponents a0) (Tx_starts a0) (Tx_afters a0) (Tx_slots a0) (Tx_negatives a0) (Tx_cells a0) (0:Int32) (0:Int32) (Tx_characters a0)) Rd Pg Pt Mk Lk Ck Jd Ld Pr)) C in_Tx t_Tx t_Tx_ok n_Tx hP (hDD _ _ _ _ _ _ _ _ _ _ _ _ _) hS 12 cw_12 rfl 11 (by decide) k_1_57 rfl rfl (by decide +kernel) rfl rfl (Nat.le_of_ble_eq_true rfl) rfl d_Tx_clear_7 (fun H locs hP hS => ?_)
  refine lv_aload_n hx hb d_Tx_clear_10 rfl (lv_at hl 0 rfl) ?_
  refine lv_iconst (v := (0:Int32)) hx hb d_Tx_clear_11 (by decide) ?_
  refine o_put (v := .int (0:Int32)) (ty := .int) (w1 := (o_cw ad ca rt Sj T0 (Tx_mk (Tx_kinds a0) (Tx_places a0) (Tx_sizes a0) (Tx_parents a0) (Tx_exponents a0) (Tx_starts a0) (Tx_afters a0) (Tx_slots a0) (Tx_negatives a0) (Tx_cells a0) (0:Int32) (0:Int32) (0:Int32)) Rd Pg Pt Mk Lk Ck Jd Ld Pr)) C in_Tx t_Tx t_Tx_ok n_Tx hP (hDD _ _ _ _ _ _ _ _ _ _ _ _ _) hS 12 cw_12 rfl 12 (by decide) k_1_58 rfl rfl (by decide +kernel) rfl rfl (Nat.le_of_ble_eq_true rfl) rfl d_Tx_clear_12 (fun H locs hP hS => ?_)
  cases h
  exact o_rv C hP hS d_Tx_clear_15
set_option maxHeartbeats 4000000 in
set_option maxRecDepth 100000 in
theorem c_Tx_begin_0 {E : (Nat → Prop) → State → Heap → Prop} {D : va_G} {ad : Nat → Nat} {ca : Nat → ClassId} (hE : o_Ek E) (l : Launch) (x1 : Int32) (x2 : Int32) (x3 : Int32) (x4 : Int32) (a0 : STx) (Sj : SSJ) (T1 : STx) (Rd : SRd) (Pg : SPg) (Pt : SPt) (Mk : SMk) (Lk : SLk) (Ck : SCk) (Jd : SJd) (Ld : SLd) (Pr : SPr) (rt : Nat) {r : Int32 × STx} (h : m_Tx_begin x1 x2 x3 x4 a0 = some r) : o_Cn E l D o_cls (o_tys ca) y_Tx_begin cc_Tx_begin rm_Tx_begin [.ref (ad 1), .int x1, .int x2, .int x3, .int x4] (o_cw ad ca rt Sj a0 T1 Rd Pg Pt Mk Lk Ck Jd Ld Pr) (o_cw ad ca rt Sj r.2 T1 Rd Pg Pt Mk Lk Ck Jd Ld Pr) (some (.int r.1)) := by
  refine o_Cn_of (by decide) (Nat.le_of_ble_eq_true rfl) ?_
  intro p e s m below meth c A ls C hD hP hS hl
  have hDD : ∀ (rt : Nat) (Sj : SSJ) (T0 : STx) (T1 : STx) (Rd : SRd) (Pg : SPg) (Pt : SPt) (Mk : SMk) (Lk : SLk) (Ck : SCk) (Jd : SJd) (Ld : SLd) (Pr : SPr), va_D A (o_cw ad ca rt Sj T0 T1 Rd Pg Pt Mk Lk Ck Jd Ld Pr) := fun _ _ _ _ _ _ _ _ _ _ _ _ _ => o_D_map hD rfl
  have hl : lv_has ls 6 [(0, .ref (ad 1)), (1, .int x1), (2, .int x2), (3, .int x3), (4, .int x4)] := hl
  unfold m_Tx_begin at h
  have C0 := C
  obtain ⟨hx, hb, -, -, -, hown, hts, hK, -, -⟩ := C0
  refine lv_aload_n hx hb d_Tx_begin_0 rfl (lv_at hl 0 rfl) ?_
  refine o_get (v := .int (Tx_total a0)) C in_Tx hP 1 cw_1 rfl 10 (by decide) k_1_56 rfl rfl d_Tx_begin_1 ?_
  refine lv_sipush (v := (1000:Int32)) hx hb d_Tx_begin_4 (by decide) ?_
  refine lv_icmp_lt (tgt := 12) hx hb d_Tx_begin_7 (by decide) (fun c1 => ?_) (fun c1 => ?_)
  · replace h := o_tt c1 h
    refine lv_aload_n hx hb d_Tx_begin_12 rfl (lv_at hl 0 rfl) ?_
    refine o_get (v := .int (Tx_total a0)) C in_Tx hP 1 cw_1 rfl 10 (by decide) k_1_56 rfl rfl d_Tx_begin_13 ?_
    refine lv_topi (fun x5_16 ex5_16 => ?_)
    replace h := o_nm_at ex5_16 h
    refine lv_istore (lv' := [(5, .int x5_16), (0, .ref (ad 1)), (1, .int x1), (2, .int x2), (3, .int x3), (4, .int x4)]) hx hb d_Tx_begin_16 hl (by decide) rfl (fun ls hl => ?_)
    refine lv_aload_n hx hb d_Tx_begin_18 rfl (lv_at hl 1 rfl) ?_
    refine lv_dup hx hb d_Tx_begin_19 rfl ?_
    refine o_get (v := .int (Tx_total a0)) C in_Tx hP 1 cw_1 rfl 10 (by decide) k_1_56 rfl rfl d_Tx_begin_20 ?_
    refine lv_iconst (v := (1:Int32)) hx hb d_Tx_begin_23 (by decide) ?_
    refine lv_iadd hx hb d_Tx_begin_24 ?_
    refine o_put (v := .int ((Tx_total a0) + (1:Int32))) (ty := .int) (w1 := (o_cw ad ca rt Sj (Tx_mk (Tx_kinds a0) (Tx_places a0) (Tx_sizes a0) (Tx_parents a0) (Tx_exponents a0) (Tx_starts a0) (Tx_afters a0) (Tx_slots a0) (Tx_negatives a0) (Tx_cells a0) ((Tx_total a0) + (1:Int32)) (Tx_used a0) (Tx_characters a0)) T1 Rd Pg Pt Mk Lk Ck Jd Ld Pr)) C in_Tx t_Tx t_Tx_ok n_Tx hP (hDD _ _ _ _ _ _ _ _ _ _ _ _ _) hS 1 cw_1 rfl 10 (by decide) k_1_56 rfl rfl (by decide +kernel) rfl rfl (Nat.le_of_ble_eq_true rfl) rfl d_Tx_begin_25 (fun H locs hP hS => ?_)
    refine lv_aload_n hx hb d_Tx_begin_28 rfl (lv_at hl 1 rfl) ?_
    refine o_get (v := .ref (ad 2)) C in_Tx hP 1 cw_1 rfl 0 (by decide) k_1_46 rfl rfl d_Tx_begin_29 ?_
    refine lv_iload hx hb d_Tx_begin_32 (lv_at hl 0 rfl) ?_
    refine lv_iload_n hx hb d_Tx_begin_34 rfl (lv_at hl 2 rfl) ?_
    obtain ⟨g2, h⟩ := o_gd_some h
    refine o_iast (f := (Tx_kinds a0)) (w1 := (o_cw ad ca rt Sj (Tx_mk (upd (Tx_kinds a0) x5_16.toNatClampNeg x1) (Tx_places a0) (Tx_sizes a0) (Tx_parents a0) (Tx_exponents a0) (Tx_starts a0) (Tx_afters a0) (Tx_slots a0) (Tx_negatives a0) (Tx_cells a0) ((Tx_total a0) + (1:Int32)) (Tx_used a0) (Tx_characters a0)) T1 Rd Pg Pt Mk Lk Ck Jd Ld Pr)) C hP (hDD _ _ _ _ _ _ _ _ _ _ _ _ _) hS 2 0 cw_2 rfl g2 rfl d_Tx_begin_35 (fun H locs hP hS => ?_)
    refine lv_aload_n hx hb d_Tx_begin_36 rfl (lv_at hl 1 rfl) ?_
    refine o_get (v := .ref (ad 3)) C in_Tx hP 1 cw_1 rfl 1 (by decide) k_1_47 rfl rfl d_Tx_begin_37 ?_
    refine lv_iload hx hb d_Tx_begin_40 (lv_at hl 0 rfl) ?_
    refine lv_iload_n hx hb d_Tx_begin_42 rfl (lv_at hl 3 rfl) ?_
    obtain ⟨g3, h⟩ := o_gd_some h
    refine o_iast (f := (Tx_places a0)) (w1 := (o_cw ad ca rt Sj (Tx_mk (upd (Tx_kinds a0) x5_16.toNatClampNeg x1) (upd (Tx_places a0) x5_16.toNatClampNeg x2) (Tx_sizes a0) (Tx_parents a0) (Tx_exponents a0) (Tx_starts a0) (Tx_afters a0) (Tx_slots a0) (Tx_negatives a0) (Tx_cells a0) ((Tx_total a0) + (1:Int32)) (Tx_used a0) (Tx_characters a0)) T1 Rd Pg Pt Mk Lk Ck Jd Ld Pr)) C hP (hDD _ _ _ _ _ _ _ _ _ _ _ _ _) hS 3 1 cw_3 rfl g3 rfl d_Tx_begin_43 (fun H locs hP hS => ?_)
    refine lv_aload_n hx hb d_Tx_begin_44 rfl (lv_at hl 1 rfl) ?_
    refine o_get (v := .ref (ad 4)) C in_Tx hP 1 cw_1 rfl 2 (by decide) k_1_48 rfl rfl d_Tx_begin_45 ?_
    refine lv_iload hx hb d_Tx_begin_48 (lv_at hl 0 rfl) ?_
    refine lv_iconst (v := (0:Int32)) hx hb d_Tx_begin_50 (by decide) ?_
    obtain ⟨g4, h⟩ := o_gd_some h
    refine o_iast (f := (Tx_sizes a0)) (w1 := (o_cw ad ca rt Sj (Tx_mk (upd (Tx_kinds a0) x5_16.toNatClampNeg x1) (upd (Tx_places a0) x5_16.toNatClampNeg x2) (upd (Tx_sizes a0) x5_16.toNatClampNeg (0:Int32)) (Tx_parents a0) (Tx_exponents a0) (Tx_starts a0) (Tx_afters a0) (Tx_slots a0) (Tx_negatives a0) (Tx_cells a0) ((Tx_total a0) + (1:Int32)) (Tx_used a0) (Tx_characters a0)) T1 Rd Pg Pt Mk Lk Ck Jd Ld Pr)) C hP (hDD _ _ _ _ _ _ _ _ _ _ _ _ _) hS 4 2 cw_4 rfl g4 rfl d_Tx_begin_51 (fun H locs hP hS => ?_)
    refine lv_aload_n hx hb d_Tx_begin_52 rfl (lv_at hl 1 rfl) ?_
    refine o_get (v := .ref (ad 5)) C in_Tx hP 1 cw_1 rfl 3 (by decide) k_1_49 rfl rfl d_Tx_begin_53 ?_
    refine lv_iload hx hb d_Tx_begin_56 (lv_at hl 0 rfl) ?_
    refine lv_iload_n hx hb d_Tx_begin_58 rfl (lv_at hl 4 rfl) ?_
    obtain ⟨g5, h⟩ := o_gd_some h
    refine o_iast (f := (Tx_parents a0)) (w1 := (o_cw ad ca rt Sj (Tx_mk (upd (Tx_kinds a0) x5_16.toNatClampNeg x1) (upd (Tx_places a0) x5_16.toNatClampNeg x2) (upd (Tx_sizes a0) x5_16.toNatClampNeg (0:Int32)) (upd (Tx_parents a0) x5_16.toNatClampNeg x3) (Tx_exponents a0) (Tx_starts a0) (Tx_afters a0) (Tx_slots a0) (Tx_negatives a0) (Tx_cells a0) ((Tx_total a0) + (1:Int32)) (Tx_used a0) (Tx_characters a0)) T1 Rd Pg Pt Mk Lk Ck Jd Ld Pr)) C hP (hDD _ _ _ _ _ _ _ _ _ _ _ _ _) hS 5 3 cw_5 rfl g5 rfl d_Tx_begin_59 (fun H locs hP hS => ?_)
    refine lv_aload_n hx hb d_Tx_begin_60 rfl (lv_at hl 1 rfl) ?_
    refine o_get (v := .ref (ad 6)) C in_Tx hP 1 cw_1 rfl 4 (by decide) k_1_50 rfl rfl d_Tx_begin_61 ?_
    refine lv_iload hx hb d_Tx_begin_64 (lv_at hl 0 rfl) ?_
    refine lv_iconst (v := (0:Int32)) hx hb d_Tx_begin_66 (by decide) ?_
    obtain ⟨g6, h⟩ := o_gd_some h
    refine o_iast (f := (Tx_exponents a0)) (w1 := (o_cw ad ca rt Sj (Tx_mk (upd (Tx_kinds a0) x5_16.toNatClampNeg x1) (upd (Tx_places a0) x5_16.toNatClampNeg x2) (upd (Tx_sizes a0) x5_16.toNatClampNeg (0:Int32)) (upd (Tx_parents a0) x5_16.toNatClampNeg x3) (upd (Tx_exponents a0) x5_16.toNatClampNeg (0:Int32)) (Tx_starts a0) (Tx_afters a0) (Tx_slots a0) (Tx_negatives a0) (Tx_cells a0) ((Tx_total a0) + (1:Int32)) (Tx_used a0) (Tx_characters a0)) T1 Rd Pg Pt Mk Lk Ck Jd Ld Pr)) C hP (hDD _ _ _ _ _ _ _ _ _ _ _ _ _) hS 6 4 cw_6 rfl g6 rfl d_Tx_begin_67 (fun H locs hP hS => ?_)
    refine lv_aload_n hx hb d_Tx_begin_68 rfl (lv_at hl 1 rfl) ?_
    refine o_get (v := .ref (ad 7)) C in_Tx hP 1 cw_1 rfl 5 (by decide) k_1_51 rfl rfl d_Tx_begin_69 ?_
    refine lv_iload hx hb d_Tx_begin_72 (lv_at hl 0 rfl) ?_
    refine lv_aload_n hx hb d_Tx_begin_74 rfl (lv_at hl 1 rfl) ?_
    refine o_get (v := .int (Tx_used a0)) C in_Tx hP 1 cw_1 rfl 11 (by decide) k_1_57 rfl rfl d_Tx_begin_75 ?_
    obtain ⟨g7, h⟩ := o_gd_some h
    refine o_iast (f := (Tx_starts a0)) (w1 := (o_cw ad ca rt Sj (Tx_mk (upd (Tx_kinds a0) x5_16.toNatClampNeg x1) (upd (Tx_places a0) x5_16.toNatClampNeg x2) (upd (Tx_sizes a0) x5_16.toNatClampNeg (0:Int32)) (upd (Tx_parents a0) x5_16.toNatClampNeg x3) (upd (Tx_exponents a0) x5_16.toNatClampNeg (0:Int32)) (upd (Tx_starts a0) x5_16.toNatClampNeg (Tx_used a0)) (Tx_afters a0) (Tx_slots a0) (Tx_negatives a0) (Tx_cells a0) ((Tx_total a0) + (1:Int32)) (Tx_used a0) (Tx_characters a0)) T1 Rd Pg Pt Mk Lk Ck Jd Ld Pr)) C hP (hDD _ _ _ _ _ _ _ _ _ _ _ _ _) hS 7 5 cw_7 rfl g7 rfl d_Tx_begin_78 (fun H locs hP hS => ?_)
    refine lv_aload_n hx hb d_Tx_begin_79 rfl (lv_at hl 1 rfl) ?_
    refine o_get (v := .ref (ad 8)) C in_Tx hP 1 cw_1 rfl 6 (by decide) k_1_52 rfl rfl d_Tx_begin_80 ?_
    refine lv_iload hx hb d_Tx_begin_83 (lv_at hl 0 rfl) ?_
    refine lv_aload_n hx hb d_Tx_begin_85 rfl (lv_at hl 1 rfl) ?_
    refine o_get (v := .int ((Tx_total a0) + (1:Int32))) C in_Tx hP 1 cw_1 rfl 10 (by decide) k_1_56 rfl rfl d_Tx_begin_86 ?_
    obtain ⟨g8, h⟩ := o_gd_some h
    refine o_iast (f := (Tx_afters a0)) (w1 := (o_cw ad ca rt Sj (Tx_mk (upd (Tx_kinds a0) x5_16.toNatClampNeg x1) (upd (Tx_places a0) x5_16.toNatClampNeg x2) (upd (Tx_sizes a0) x5_16.toNatClampNeg (0:Int32)) (upd (Tx_parents a0) x5_16.toNatClampNeg x3) (upd (Tx_exponents a0) x5_16.toNatClampNeg (0:Int32)) (upd (Tx_starts a0) x5_16.toNatClampNeg (Tx_used a0)) (upd (Tx_afters a0) x5_16.toNatClampNeg ((Tx_total a0) + (1:Int32))) (Tx_slots a0) (Tx_negatives a0) (Tx_cells a0) ((Tx_total a0) + (1:Int32)) (Tx_used a0) (Tx_characters a0)) T1 Rd Pg Pt Mk Lk Ck Jd Ld Pr)) C hP (hDD _ _ _ _ _ _ _ _ _ _ _ _ _) hS 8 6 cw_8 rfl g8 rfl d_Tx_begin_89 (fun H locs hP hS => ?_)
    refine lv_aload_n hx hb d_Tx_begin_90 rfl (lv_at hl 1 rfl) ?_
    refine o_get (v := .ref (ad 9)) C in_Tx hP 1 cw_1 rfl 7 (by decide) k_1_53 rfl rfl d_Tx_begin_91 ?_
    refine lv_iload hx hb d_Tx_begin_94 (lv_at hl 0 rfl) ?_
    refine lv_iload hx hb d_Tx_begin_96 (lv_at hl 5 rfl) ?_
    obtain ⟨g9, h⟩ := o_gd_some h
    refine o_iast (f := (Tx_slots a0)) (w1 := (o_cw ad ca rt Sj (Tx_mk (upd (Tx_kinds a0) x5_16.toNatClampNeg x1) (upd (Tx_places a0) x5_16.toNatClampNeg x2) (upd (Tx_sizes a0) x5_16.toNatClampNeg (0:Int32)) (upd (Tx_parents a0) x5_16.toNatClampNeg x3) (upd (Tx_exponents a0) x5_16.toNatClampNeg (0:Int32)) (upd (Tx_starts a0) x5_16.toNatClampNeg (Tx_used a0)) (upd (Tx_afters a0) x5_16.toNatClampNeg ((Tx_total a0) + (1:Int32))) (upd (Tx_slots a0) x5_16.toNatClampNeg x4) (Tx_negatives a0) (Tx_cells a0) ((Tx_total a0) + (1:Int32)) (Tx_used a0) (Tx_characters a0)) T1 Rd Pg Pt Mk Lk Ck Jd Ld Pr)) C hP (hDD _ _ _ _ _ _ _ _ _ _ _ _ _) hS 9 7 cw_9 rfl g9 rfl d_Tx_begin_98 (fun H locs hP hS => ?_)
    refine lv_aload_n hx hb d_Tx_begin_99 rfl (lv_at hl 1 rfl) ?_
    refine o_get (v := .ref (ad 10)) C in_Tx hP 1 cw_1 rfl 8 (by decide) k_1_54 rfl rfl d_Tx_begin_100 ?_
    refine lv_iload hx hb d_Tx_begin_103 (lv_at hl 0 rfl) ?_
    refine lv_iconst (v := (0:Int32)) hx hb d_Tx_begin_105 (by decide) ?_
    obtain ⟨g10, h⟩ := o_gd_some h
    refine o_zast (f := (Tx_negatives a0)) (w1 := (o_cw ad ca rt Sj (Tx_mk (upd (Tx_kinds a0) x5_16.toNatClampNeg x1) (upd (Tx_places a0) x5_16.toNatClampNeg x2) (upd (Tx_sizes a0) x5_16.toNatClampNeg (0:Int32)) (upd (Tx_parents a0) x5_16.toNatClampNeg x3) (upd (Tx_exponents a0) x5_16.toNatClampNeg (0:Int32)) (upd (Tx_starts a0) x5_16.toNatClampNeg (Tx_used a0)) (upd (Tx_afters a0) x5_16.toNatClampNeg ((Tx_total a0) + (1:Int32))) (upd (Tx_slots a0) x5_16.toNatClampNeg x4) (upd (Tx_negatives a0) x5_16.toNatClampNeg (vp_nar .boolean (0:Int32))) (Tx_cells a0) ((Tx_total a0) + (1:Int32)) (Tx_used a0) (Tx_characters a0)) T1 Rd Pg Pt Mk Lk Ck Jd Ld Pr)) C hP (hDD _ _ _ _ _ _ _ _ _ _ _ _ _) hS 10 8 cw_10 rfl g10 rfl d_Tx_begin_106 (fun H locs hP hS => ?_)
    refine lv_iload hx hb d_Tx_begin_107 (lv_at hl 0 rfl) ?_
    cases h
    exact o_ri (v := x5_16) C hP hS d_Tx_begin_109
  · replace h := o_ff c1 h
    refine lv_iconst (v := (-1:Int32)) hx hb d_Tx_begin_10 (by decide) ?_
    cases h
    exact o_ri (v := (-1:Int32)) C hP hS d_Tx_begin_11
set_option maxHeartbeats 4000000 in
set_option maxRecDepth 100000 in
theorem c_Tx_begin_1 {E : (Nat → Prop) → State → Heap → Prop} {D : va_G} {ad : Nat → Nat} {ca : Nat → ClassId} (hE : o_Ek E) (l : Launch) (x1 : Int32) (x2 : Int32) (x3 : Int32) (x4 : Int32) (a0 : STx) (Sj : SSJ) (T0 : STx) (Rd : SRd) (Pg : SPg) (Pt : SPt) (Mk : SMk) (Lk : SLk) (Ck : SCk) (Jd : SJd) (Ld : SLd) (Pr : SPr) (rt : Nat) {r : Int32 × STx} (h : m_Tx_begin x1 x2 x3 x4 a0 = some r) : o_Cn E l D o_cls (o_tys ca) y_Tx_begin cc_Tx_begin rm_Tx_begin [.ref (ad 12), .int x1, .int x2, .int x3, .int x4] (o_cw ad ca rt Sj T0 a0 Rd Pg Pt Mk Lk Ck Jd Ld Pr) (o_cw ad ca rt Sj T0 r.2 Rd Pg Pt Mk Lk Ck Jd Ld Pr) (some (.int r.1)) := by
  refine o_Cn_of (by decide) (Nat.le_of_ble_eq_true rfl) ?_
  intro p e s m below meth c A ls C hD hP hS hl
  have hDD : ∀ (rt : Nat) (Sj : SSJ) (T0 : STx) (T1 : STx) (Rd : SRd) (Pg : SPg) (Pt : SPt) (Mk : SMk) (Lk : SLk) (Ck : SCk) (Jd : SJd) (Ld : SLd) (Pr : SPr), va_D A (o_cw ad ca rt Sj T0 T1 Rd Pg Pt Mk Lk Ck Jd Ld Pr) := fun _ _ _ _ _ _ _ _ _ _ _ _ _ => o_D_map hD rfl
  have hl : lv_has ls 6 [(0, .ref (ad 12)), (1, .int x1), (2, .int x2), (3, .int x3), (4, .int x4)] := hl
  unfold m_Tx_begin at h
  have C0 := C
  obtain ⟨hx, hb, -, -, -, hown, hts, hK, -, -⟩ := C0
  refine lv_aload_n hx hb d_Tx_begin_0 rfl (lv_at hl 0 rfl) ?_
  refine o_get (v := .int (Tx_total a0)) C in_Tx hP 12 cw_12 rfl 10 (by decide) k_1_56 rfl rfl d_Tx_begin_1 ?_
  refine lv_sipush (v := (1000:Int32)) hx hb d_Tx_begin_4 (by decide) ?_
  refine lv_icmp_lt (tgt := 12) hx hb d_Tx_begin_7 (by decide) (fun c1 => ?_) (fun c1 => ?_)
  · replace h := o_tt c1 h
    refine lv_aload_n hx hb d_Tx_begin_12 rfl (lv_at hl 0 rfl) ?_
    refine o_get (v := .int (Tx_total a0)) C in_Tx hP 12 cw_12 rfl 10 (by decide) k_1_56 rfl rfl d_Tx_begin_13 ?_
    refine lv_topi (fun x5_16 ex5_16 => ?_)
    replace h := o_nm_at ex5_16 h
    refine lv_istore (lv' := [(5, .int x5_16), (0, .ref (ad 12)), (1, .int x1), (2, .int x2), (3, .int x3), (4, .int x4)]) hx hb d_Tx_begin_16 hl (by decide) rfl (fun ls hl => ?_)
    refine lv_aload_n hx hb d_Tx_begin_18 rfl (lv_at hl 1 rfl) ?_
    refine lv_dup hx hb d_Tx_begin_19 rfl ?_
    refine o_get (v := .int (Tx_total a0)) C in_Tx hP 12 cw_12 rfl 10 (by decide) k_1_56 rfl rfl d_Tx_begin_20 ?_
    refine lv_iconst (v := (1:Int32)) hx hb d_Tx_begin_23 (by decide) ?_
    refine lv_iadd hx hb d_Tx_begin_24 ?_
    refine o_put (v := .int ((Tx_total a0) + (1:Int32))) (ty := .int) (w1 := (o_cw ad ca rt Sj T0 (Tx_mk (Tx_kinds a0) (Tx_places a0) (Tx_sizes a0) (Tx_parents a0) (Tx_exponents a0) (Tx_starts a0) (Tx_afters a0) (Tx_slots a0) (Tx_negatives a0) (Tx_cells a0) ((Tx_total a0) + (1:Int32)) (Tx_used a0) (Tx_characters a0)) Rd Pg Pt Mk Lk Ck Jd Ld Pr)) C in_Tx t_Tx t_Tx_ok n_Tx hP (hDD _ _ _ _ _ _ _ _ _ _ _ _ _) hS 12 cw_12 rfl 10 (by decide) k_1_56 rfl rfl (by decide +kernel) rfl rfl (Nat.le_of_ble_eq_true rfl) rfl d_Tx_begin_25 (fun H locs hP hS => ?_)
    refine lv_aload_n hx hb d_Tx_begin_28 rfl (lv_at hl 1 rfl) ?_
    refine o_get (v := .ref (ad 13)) C in_Tx hP 12 cw_12 rfl 0 (by decide) k_1_46 rfl rfl d_Tx_begin_29 ?_
    refine lv_iload hx hb d_Tx_begin_32 (lv_at hl 0 rfl) ?_
    refine lv_iload_n hx hb d_Tx_begin_34 rfl (lv_at hl 2 rfl) ?_
    obtain ⟨g2, h⟩ := o_gd_some h
    refine o_iast (f := (Tx_kinds a0)) (w1 := (o_cw ad ca rt Sj T0 (Tx_mk (upd (Tx_kinds a0) x5_16.toNatClampNeg x1) (Tx_places a0) (Tx_sizes a0) (Tx_parents a0) (Tx_exponents a0) (Tx_starts a0) (Tx_afters a0) (Tx_slots a0) (Tx_negatives a0) (Tx_cells a0) ((Tx_total a0) + (1:Int32)) (Tx_used a0) (Tx_characters a0)) Rd Pg Pt Mk Lk Ck Jd Ld Pr)) C hP (hDD _ _ _ _ _ _ _ _ _ _ _ _ _) hS 13 10 cw_13 rfl g2 rfl d_Tx_begin_35 (fun H locs hP hS => ?_)
    refine lv_aload_n hx hb d_Tx_begin_36 rfl (lv_at hl 1 rfl) ?_
    refine o_get (v := .ref (ad 14)) C in_Tx hP 12 cw_12 rfl 1 (by decide) k_1_47 rfl rfl d_Tx_begin_37 ?_
    refine lv_iload hx hb d_Tx_begin_40 (lv_at hl 0 rfl) ?_
    refine lv_iload_n hx hb d_Tx_begin_42 rfl (lv_at hl 3 rfl) ?_
    obtain ⟨g3, h⟩ := o_gd_some h
    refine o_iast (f := (Tx_places a0)) (w1 := (o_cw ad ca rt Sj T0 (Tx_mk (upd (Tx_kinds a0) x5_16.toNatClampNeg x1) (upd (Tx_places a0) x5_16.toNatClampNeg x2) (Tx_sizes a0) (Tx_parents a0) (Tx_exponents a0) (Tx_starts a0) (Tx_afters a0) (Tx_slots a0) (Tx_negatives a0) (Tx_cells a0) ((Tx_total a0) + (1:Int32)) (Tx_used a0) (Tx_characters a0)) Rd Pg Pt Mk Lk Ck Jd Ld Pr)) C hP (hDD _ _ _ _ _ _ _ _ _ _ _ _ _) hS 14 11 cw_14 rfl g3 rfl d_Tx_begin_43 (fun H locs hP hS => ?_)
    refine lv_aload_n hx hb d_Tx_begin_44 rfl (lv_at hl 1 rfl) ?_
    refine o_get (v := .ref (ad 15)) C in_Tx hP 12 cw_12 rfl 2 (by decide) k_1_48 rfl rfl d_Tx_begin_45 ?_
    refine lv_iload hx hb d_Tx_begin_48 (lv_at hl 0 rfl) ?_
    refine lv_iconst (v := (0:Int32)) hx hb d_Tx_begin_50 (by decide) ?_
    obtain ⟨g4, h⟩ := o_gd_some h
    refine o_iast (f := (Tx_sizes a0)) (w1 := (o_cw ad ca rt Sj T0 (Tx_mk (upd (Tx_kinds a0) x5_16.toNatClampNeg x1) (upd (Tx_places a0) x5_16.toNatClampNeg x2) (upd (Tx_sizes a0) x5_16.toNatClampNeg (0:Int32)) (Tx_parents a0) (Tx_exponents a0) (Tx_starts a0) (Tx_afters a0) (Tx_slots a0) (Tx_negatives a0) (Tx_cells a0) ((Tx_total a0) + (1:Int32)) (Tx_used a0) (Tx_characters a0)) Rd Pg Pt Mk Lk Ck Jd Ld Pr)) C hP (hDD _ _ _ _ _ _ _ _ _ _ _ _ _) hS 15 12 cw_15 rfl g4 rfl d_Tx_begin_51 (fun H locs hP hS => ?_)
    refine lv_aload_n hx hb d_Tx_begin_52 rfl (lv_at hl 1 rfl) ?_
    refine o_get (v := .ref (ad 16)) C in_Tx hP 12 cw_12 rfl 3 (by decide) k_1_49 rfl rfl d_Tx_begin_53 ?_
    refine lv_iload hx hb d_Tx_begin_56 (lv_at hl 0 rfl) ?_
    refine lv_iload_n hx hb d_Tx_begin_58 rfl (lv_at hl 4 rfl) ?_
    obtain ⟨g5, h⟩ := o_gd_some h
    refine o_iast (f := (Tx_parents a0)) (w1 := (o_cw ad ca rt Sj T0 (Tx_mk (upd (Tx_kinds a0) x5_16.toNatClampNeg x1) (upd (Tx_places a0) x5_16.toNatClampNeg x2) (upd (Tx_sizes a0) x5_16.toNatClampNeg (0:Int32)) (upd (Tx_parents a0) x5_16.toNatClampNeg x3) (Tx_exponents a0) (Tx_starts a0) (Tx_afters a0) (Tx_slots a0) (Tx_negatives a0) (Tx_cells a0) ((Tx_total a0) + (1:Int32)) (Tx_used a0) (Tx_characters a0)) Rd Pg Pt Mk Lk Ck Jd Ld Pr)) C hP (hDD _ _ _ _ _ _ _ _ _ _ _ _ _) hS 16 13 cw_16 rfl g5 rfl d_Tx_begin_59 (fun H locs hP hS => ?_)
    refine lv_aload_n hx hb d_Tx_begin_60 rfl (lv_at hl 1 rfl) ?_
    refine o_get (v := .ref (ad 17)) C in_Tx hP 12 cw_12 rfl 4 (by decide) k_1_50 rfl rfl d_Tx_begin_61 ?_
    refine lv_iload hx hb d_Tx_begin_64 (lv_at hl 0 rfl) ?_
    refine lv_iconst (v := (0:Int32)) hx hb d_Tx_begin_66 (by decide) ?_
    obtain ⟨g6, h⟩ := o_gd_some h
    refine o_iast (f := (Tx_exponents a0)) (w1 := (o_cw ad ca rt Sj T0 (Tx_mk (upd (Tx_kinds a0) x5_16.toNatClampNeg x1) (upd (Tx_places a0) x5_16.toNatClampNeg x2) (upd (Tx_sizes a0) x5_16.toNatClampNeg (0:Int32)) (upd (Tx_parents a0) x5_16.toNatClampNeg x3) (upd (Tx_exponents a0) x5_16.toNatClampNeg (0:Int32)) (Tx_starts a0) (Tx_afters a0) (Tx_slots a0) (Tx_negatives a0) (Tx_cells a0) ((Tx_total a0) + (1:Int32)) (Tx_used a0) (Tx_characters a0)) Rd Pg Pt Mk Lk Ck Jd Ld Pr)) C hP (hDD _ _ _ _ _ _ _ _ _ _ _ _ _) hS 17 14 cw_17 rfl g6 rfl d_Tx_begin_67 (fun H locs hP hS => ?_)
    refine lv_aload_n hx hb d_Tx_begin_68 rfl (lv_at hl 1 rfl) ?_
    refine o_get (v := .ref (ad 18)) C in_Tx hP 12 cw_12 rfl 5 (by decide) k_1_51 rfl rfl d_Tx_begin_69 ?_
    refine lv_iload hx hb d_Tx_begin_72 (lv_at hl 0 rfl) ?_
    refine lv_aload_n hx hb d_Tx_begin_74 rfl (lv_at hl 1 rfl) ?_
    refine o_get (v := .int (Tx_used a0)) C in_Tx hP 12 cw_12 rfl 11 (by decide) k_1_57 rfl rfl d_Tx_begin_75 ?_
    obtain ⟨g7, h⟩ := o_gd_some h
    refine o_iast (f := (Tx_starts a0)) (w1 := (o_cw ad ca rt Sj T0 (Tx_mk (upd (Tx_kinds a0) x5_16.toNatClampNeg x1) (upd (Tx_places a0) x5_16.toNatClampNeg x2) (upd (Tx_sizes a0) x5_16.toNatClampNeg (0:Int32)) (upd (Tx_parents a0) x5_16.toNatClampNeg x3) (upd (Tx_exponents a0) x5_16.toNatClampNeg (0:Int32)) (upd (Tx_starts a0) x5_16.toNatClampNeg (Tx_used a0)) (Tx_afters a0) (Tx_slots a0) (Tx_negatives a0) (Tx_cells a0) ((Tx_total a0) + (1:Int32)) (Tx_used a0) (Tx_characters a0)) Rd Pg Pt Mk Lk Ck Jd Ld Pr)) C hP (hDD _ _ _ _ _ _ _ _ _ _ _ _ _) hS 18 15 cw_18 rfl g7 rfl d_Tx_begin_78 (fun H locs hP hS => ?_)
    refine lv_aload_n hx hb d_Tx_begin_79 rfl (lv_at hl 1 rfl) ?_
    refine o_get (v := .ref (ad 19)) C in_Tx hP 12 cw_12 rfl 6 (by decide) k_1_52 rfl rfl d_Tx_begin_80 ?_
    refine lv_iload hx hb d_Tx_begin_83 (lv_at hl 0 rfl) ?_
    refine lv_aload_n hx hb d_Tx_begin_85 rfl (lv_at hl 1 rfl) ?_
    refine o_get (v := .int ((Tx_total a0) + (1:Int32))) C in_Tx hP 12 cw_12 rfl 10 (by decide) k_1_56 rfl rfl d_Tx_begin_86 ?_
    obtain ⟨g8, h⟩ := o_gd_some h
    refine o_iast (f := (Tx_afters a0)) (w1 := (o_cw ad ca rt Sj T0 (Tx_mk (upd (Tx_kinds a0) x5_16.toNatClampNeg x1) (upd (Tx_places a0) x5_16.toNatClampNeg x2) (upd (Tx_sizes a0) x5_16.toNatClampNeg (0:Int32)) (upd (Tx_parents a0) x5_16.toNatClampNeg x3) (upd (Tx_exponents a0) x5_16.toNatClampNeg (0:Int32)) (upd (Tx_starts a0) x5_16.toNatClampNeg (Tx_used a0)) (upd (Tx_afters a0) x5_16.toNatClampNeg ((Tx_total a0) + (1:Int32))) (Tx_slots a0) (Tx_negatives a0) (Tx_cells a0) ((Tx_total a0) + (1:Int32)) (Tx_used a0) (Tx_characters a0)) Rd Pg Pt Mk Lk Ck Jd Ld Pr)) C hP (hDD _ _ _ _ _ _ _ _ _ _ _ _ _) hS 19 16 cw_19 rfl g8 rfl d_Tx_begin_89 (fun H locs hP hS => ?_)
    refine lv_aload_n hx hb d_Tx_begin_90 rfl (lv_at hl 1 rfl) ?_
    refine o_get (v := .ref (ad 20)) C in_Tx hP 12 cw_12 rfl 7 (by decide) k_1_53 rfl rfl d_Tx_begin_91 ?_
    refine lv_iload hx hb d_Tx_begin_94 (lv_at hl 0 rfl) ?_
    refine lv_iload hx hb d_Tx_begin_96 (lv_at hl 5 rfl) ?_
    obtain ⟨g9, h⟩ := o_gd_some h
    refine o_iast (f := (Tx_slots a0)) (w1 := (o_cw ad ca rt Sj T0 (Tx_mk (upd (Tx_kinds a0) x5_16.toNatClampNeg x1) (upd (Tx_places a0) x5_16.toNatClampNeg x2) (upd (Tx_sizes a0) x5_16.toNatClampNeg (0:Int32)) (upd (Tx_parents a0) x5_16.toNatClampNeg x3) (upd (Tx_exponents a0) x5_16.toNatClampNeg (0:Int32)) (upd (Tx_starts a0) x5_16.toNatClampNeg (Tx_used a0)) (upd (Tx_afters a0) x5_16.toNatClampNeg ((Tx_total a0) + (1:Int32))) (upd (Tx_slots a0) x5_16.toNatClampNeg x4) (Tx_negatives a0) (Tx_cells a0) ((Tx_total a0) + (1:Int32)) (Tx_used a0) (Tx_characters a0)) Rd Pg Pt Mk Lk Ck Jd Ld Pr)) C hP (hDD _ _ _ _ _ _ _ _ _ _ _ _ _) hS 20 17 cw_20 rfl g9 rfl d_Tx_begin_98 (fun H locs hP hS => ?_)
    refine lv_aload_n hx hb d_Tx_begin_99 rfl (lv_at hl 1 rfl) ?_
    refine o_get (v := .ref (ad 21)) C in_Tx hP 12 cw_12 rfl 8 (by decide) k_1_54 rfl rfl d_Tx_begin_100 ?_
    refine lv_iload hx hb d_Tx_begin_103 (lv_at hl 0 rfl) ?_
    refine lv_iconst (v := (0:Int32)) hx hb d_Tx_begin_105 (by decide) ?_
    obtain ⟨g10, h⟩ := o_gd_some h
    refine o_zast (f := (Tx_negatives a0)) (w1 := (o_cw ad ca rt Sj T0 (Tx_mk (upd (Tx_kinds a0) x5_16.toNatClampNeg x1) (upd (Tx_places a0) x5_16.toNatClampNeg x2) (upd (Tx_sizes a0) x5_16.toNatClampNeg (0:Int32)) (upd (Tx_parents a0) x5_16.toNatClampNeg x3) (upd (Tx_exponents a0) x5_16.toNatClampNeg (0:Int32)) (upd (Tx_starts a0) x5_16.toNatClampNeg (Tx_used a0)) (upd (Tx_afters a0) x5_16.toNatClampNeg ((Tx_total a0) + (1:Int32))) (upd (Tx_slots a0) x5_16.toNatClampNeg x4) (upd (Tx_negatives a0) x5_16.toNatClampNeg (vp_nar .boolean (0:Int32))) (Tx_cells a0) ((Tx_total a0) + (1:Int32)) (Tx_used a0) (Tx_characters a0)) Rd Pg Pt Mk Lk Ck Jd Ld Pr)) C hP (hDD _ _ _ _ _ _ _ _ _ _ _ _ _) hS 21 18 cw_21 rfl g10 rfl d_Tx_begin_106 (fun H locs hP hS => ?_)
    refine lv_iload hx hb d_Tx_begin_107 (lv_at hl 0 rfl) ?_
    cases h
    exact o_ri (v := x5_16) C hP hS d_Tx_begin_109
  · replace h := o_ff c1 h
    refine lv_iconst (v := (-1:Int32)) hx hb d_Tx_begin_10 (by decide) ?_
    cases h
    exact o_ri (v := (-1:Int32)) C hP hS d_Tx_begin_11
set_option maxHeartbeats 4000000 in
set_option maxRecDepth 100000 in
theorem c_Tx_addDigit_0 {E : (Nat → Prop) → State → Heap → Prop} {D : va_G} {ad : Nat → Nat} {ca : Nat → ClassId} (hE : o_Ek E) (l : Launch) (x1 : Int32) (a0 : STx) (Sj : SSJ) (T1 : STx) (Rd : SRd) (Pg : SPg) (Pt : SPt) (Mk : SMk) (Lk : SLk) (Ck : SCk) (Jd : SJd) (Ld : SLd) (Pr : SPr) (rt : Nat) {r : STx} (h : m_Tx_addDigit x1 a0 = some r) : o_Cn E l D o_cls (o_tys ca) y_Tx_addDigit cc_Tx_addDigit rm_Tx_addDigit [.ref (ad 1), .int x1] (o_cw ad ca rt Sj a0 T1 Rd Pg Pt Mk Lk Ck Jd Ld Pr) (o_cw ad ca rt Sj r T1 Rd Pg Pt Mk Lk Ck Jd Ld Pr) none := by
  refine o_Cn_of (by decide) (Nat.le_of_ble_eq_true rfl) ?_
  intro p e s m below meth c A ls C hD hP hS hl
  have hDD : ∀ (rt : Nat) (Sj : SSJ) (T0 : STx) (T1 : STx) (Rd : SRd) (Pg : SPg) (Pt : SPt) (Mk : SMk) (Lk : SLk) (Ck : SCk) (Jd : SJd) (Ld : SLd) (Pr : SPr), va_D A (o_cw ad ca rt Sj T0 T1 Rd Pg Pt Mk Lk Ck Jd Ld Pr) := fun _ _ _ _ _ _ _ _ _ _ _ _ _ => o_D_map hD rfl
  have hl : lv_has ls 2 [(0, .ref (ad 1)), (1, .int x1)] := hl
  unfold m_Tx_addDigit at h
  have C0 := C
  obtain ⟨hx, hb, -, -, -, hown, hts, hK, -, -⟩ := C0
  refine lv_aload_n hx hb d_Tx_addDigit_0 rfl (lv_at hl 0 rfl) ?_
  refine o_get (v := .int (Tx_used a0)) C in_Tx hP 1 cw_1 rfl 11 (by decide) k_1_57 rfl rfl d_Tx_addDigit_1 ?_
  refine lv_aload_n hx hb d_Tx_addDigit_4 rfl (lv_at hl 0 rfl) ?_
  refine o_get (v := .ref (ad 11)) C in_Tx hP 1 cw_1 rfl 9 (by decide) k_1_55 rfl rfl d_Tx_addDigit_5 ?_
  refine va_alen (v := (8192:Int32)) hx hb hK hP 11 9 cw_11 rfl rfl d_Tx_addDigit_8 ?_
  refine lv_icmp_ge (tgt := 32) hx hb d_Tx_addDigit_9 (by decide) (fun c1 => ?_) (fun c1 => ?_)
  · replace h := o_tt c1 h
    cases h
    exact o_rv C hP hS d_Tx_addDigit_32
  · replace h := o_ff c1 h
    refine lv_aload_n hx hb d_Tx_addDigit_12 rfl (lv_at hl 0 rfl) ?_
    refine o_get (v := .ref (ad 11)) C in_Tx hP 1 cw_1 rfl 9 (by decide) k_1_55 rfl rfl d_Tx_addDigit_13 ?_
    refine lv_aload_n hx hb d_Tx_addDigit_16 rfl (lv_at hl 0 rfl) ?_
    refine o_get (v := .int (Tx_used a0)) C in_Tx hP 1 cw_1 rfl 11 (by decide) k_1_57 rfl rfl d_Tx_addDigit_17 ?_
    refine lv_iload_n hx hb d_Tx_addDigit_20 rfl (lv_at hl 1 rfl) ?_
    obtain ⟨g2, h⟩ := o_gd_some h
    refine o_iast (f := (Tx_cells a0)) (w1 := (o_cw ad ca rt Sj (Tx_mk (Tx_kinds a0) (Tx_places a0) (Tx_sizes a0) (Tx_parents a0) (Tx_exponents a0) (Tx_starts a0) (Tx_afters a0) (Tx_slots a0) (Tx_negatives a0) (upd (Tx_cells a0) (Tx_used a0).toNatClampNeg x1) (Tx_total a0) (Tx_used a0) (Tx_characters a0)) T1 Rd Pg Pt Mk Lk Ck Jd Ld Pr)) C hP (hDD _ _ _ _ _ _ _ _ _ _ _ _ _) hS 11 9 cw_11 rfl g2 rfl d_Tx_addDigit_21 (fun H locs hP hS => ?_)
    refine lv_aload_n hx hb d_Tx_addDigit_22 rfl (lv_at hl 0 rfl) ?_
    refine lv_dup hx hb d_Tx_addDigit_23 rfl ?_
    refine o_get (v := .int (Tx_used a0)) C in_Tx hP 1 cw_1 rfl 11 (by decide) k_1_57 rfl rfl d_Tx_addDigit_24 ?_
    refine lv_iconst (v := (1:Int32)) hx hb d_Tx_addDigit_27 (by decide) ?_
    refine lv_iadd hx hb d_Tx_addDigit_28 ?_
    refine o_put (v := .int ((Tx_used a0) + (1:Int32))) (ty := .int) (w1 := (o_cw ad ca rt Sj (Tx_mk (Tx_kinds a0) (Tx_places a0) (Tx_sizes a0) (Tx_parents a0) (Tx_exponents a0) (Tx_starts a0) (Tx_afters a0) (Tx_slots a0) (Tx_negatives a0) (upd (Tx_cells a0) (Tx_used a0).toNatClampNeg x1) (Tx_total a0) ((Tx_used a0) + (1:Int32)) (Tx_characters a0)) T1 Rd Pg Pt Mk Lk Ck Jd Ld Pr)) C in_Tx t_Tx t_Tx_ok n_Tx hP (hDD _ _ _ _ _ _ _ _ _ _ _ _ _) hS 1 cw_1 rfl 11 (by decide) k_1_57 rfl rfl (by decide +kernel) rfl rfl (Nat.le_of_ble_eq_true rfl) rfl d_Tx_addDigit_29 (fun H locs hP hS => ?_)
    cases h
    exact o_rv C hP hS d_Tx_addDigit_32
set_option maxHeartbeats 4000000 in
set_option maxRecDepth 100000 in
theorem c_Tx_addDigit_1 {E : (Nat → Prop) → State → Heap → Prop} {D : va_G} {ad : Nat → Nat} {ca : Nat → ClassId} (hE : o_Ek E) (l : Launch) (x1 : Int32) (a0 : STx) (Sj : SSJ) (T0 : STx) (Rd : SRd) (Pg : SPg) (Pt : SPt) (Mk : SMk) (Lk : SLk) (Ck : SCk) (Jd : SJd) (Ld : SLd) (Pr : SPr) (rt : Nat) {r : STx} (h : m_Tx_addDigit x1 a0 = some r) : o_Cn E l D o_cls (o_tys ca) y_Tx_addDigit cc_Tx_addDigit rm_Tx_addDigit [.ref (ad 12), .int x1] (o_cw ad ca rt Sj T0 a0 Rd Pg Pt Mk Lk Ck Jd Ld Pr) (o_cw ad ca rt Sj T0 r Rd Pg Pt Mk Lk Ck Jd Ld Pr) none := by
  refine o_Cn_of (by decide) (Nat.le_of_ble_eq_true rfl) ?_
  intro p e s m below meth c A ls C hD hP hS hl
  have hDD : ∀ (rt : Nat) (Sj : SSJ) (T0 : STx) (T1 : STx) (Rd : SRd) (Pg : SPg) (Pt : SPt) (Mk : SMk) (Lk : SLk) (Ck : SCk) (Jd : SJd) (Ld : SLd) (Pr : SPr), va_D A (o_cw ad ca rt Sj T0 T1 Rd Pg Pt Mk Lk Ck Jd Ld Pr) := fun _ _ _ _ _ _ _ _ _ _ _ _ _ => o_D_map hD rfl
  have hl : lv_has ls 2 [(0, .ref (ad 12)), (1, .int x1)] := hl
  unfold m_Tx_addDigit at h
  have C0 := C
  obtain ⟨hx, hb, -, -, -, hown, hts, hK, -, -⟩ := C0
  refine lv_aload_n hx hb d_Tx_addDigit_0 rfl (lv_at hl 0 rfl) ?_
  refine o_get (v := .int (Tx_used a0)) C in_Tx hP 12 cw_12 rfl 11 (by decide) k_1_57 rfl rfl d_Tx_addDigit_1 ?_
  refine lv_aload_n hx hb d_Tx_addDigit_4 rfl (lv_at hl 0 rfl) ?_
  refine o_get (v := .ref (ad 22)) C in_Tx hP 12 cw_12 rfl 9 (by decide) k_1_55 rfl rfl d_Tx_addDigit_5 ?_
  refine va_alen (v := (8192:Int32)) hx hb hK hP 22 19 cw_22 rfl rfl d_Tx_addDigit_8 ?_
  refine lv_icmp_ge (tgt := 32) hx hb d_Tx_addDigit_9 (by decide) (fun c1 => ?_) (fun c1 => ?_)
  · replace h := o_tt c1 h
    cases h
    exact o_rv C hP hS d_Tx_addDigit_32
  · replace h := o_ff c1 h
    refine lv_aload_n hx hb d_Tx_addDigit_12 rfl (lv_at hl 0 rfl) ?_
    refine o_get (v := .ref (ad 22)) C in_Tx hP 12 cw_12 rfl 9 (by decide) k_1_55 rfl rfl d_Tx_addDigit_13 ?_
    refine lv_aload_n hx hb d_Tx_addDigit_16 rfl (lv_at hl 0 rfl) ?_
    refine o_get (v := .int (Tx_used a0)) C in_Tx hP 12 cw_12 rfl 11 (by decide) k_1_57 rfl rfl d_Tx_addDigit_17 ?_
    refine lv_iload_n hx hb d_Tx_addDigit_20 rfl (lv_at hl 1 rfl) ?_
    obtain ⟨g2, h⟩ := o_gd_some h
    refine o_iast (f := (Tx_cells a0)) (w1 := (o_cw ad ca rt Sj T0 (Tx_mk (Tx_kinds a0) (Tx_places a0) (Tx_sizes a0) (Tx_parents a0) (Tx_exponents a0) (Tx_starts a0) (Tx_afters a0) (Tx_slots a0) (Tx_negatives a0) (upd (Tx_cells a0) (Tx_used a0).toNatClampNeg x1) (Tx_total a0) (Tx_used a0) (Tx_characters a0)) Rd Pg Pt Mk Lk Ck Jd Ld Pr)) C hP (hDD _ _ _ _ _ _ _ _ _ _ _ _ _) hS 22 19 cw_22 rfl g2 rfl d_Tx_addDigit_21 (fun H locs hP hS => ?_)
    refine lv_aload_n hx hb d_Tx_addDigit_22 rfl (lv_at hl 0 rfl) ?_
    refine lv_dup hx hb d_Tx_addDigit_23 rfl ?_
    refine o_get (v := .int (Tx_used a0)) C in_Tx hP 12 cw_12 rfl 11 (by decide) k_1_57 rfl rfl d_Tx_addDigit_24 ?_
    refine lv_iconst (v := (1:Int32)) hx hb d_Tx_addDigit_27 (by decide) ?_
    refine lv_iadd hx hb d_Tx_addDigit_28 ?_
    refine o_put (v := .int ((Tx_used a0) + (1:Int32))) (ty := .int) (w1 := (o_cw ad ca rt Sj T0 (Tx_mk (Tx_kinds a0) (Tx_places a0) (Tx_sizes a0) (Tx_parents a0) (Tx_exponents a0) (Tx_starts a0) (Tx_afters a0) (Tx_slots a0) (Tx_negatives a0) (upd (Tx_cells a0) (Tx_used a0).toNatClampNeg x1) (Tx_total a0) ((Tx_used a0) + (1:Int32)) (Tx_characters a0)) Rd Pg Pt Mk Lk Ck Jd Ld Pr)) C in_Tx t_Tx t_Tx_ok n_Tx hP (hDD _ _ _ _ _ _ _ _ _ _ _ _ _) hS 12 cw_12 rfl 11 (by decide) k_1_57 rfl rfl (by decide +kernel) rfl rfl (Nat.le_of_ble_eq_true rfl) rfl d_Tx_addDigit_29 (fun H locs hP hS => ?_)
    cases h
    exact o_rv C hP hS d_Tx_addDigit_32
set_option maxHeartbeats 4000000 in
set_option maxRecDepth 100000 in
theorem w_Tx_endNumber_b27_0 {E : (Nat → Prop) → State → Heap → Prop} {p : Program} {l : Launch} {e : Env} {s : State} {m : MethodId} {args : Array Value} {below : List Frame} {meth : Method} {c : Code} {D : va_G} {ad : Nat → Nat} {ca : Nat → ClassId} {A : Nat → Prop} {Q : State → Prop} (hE : o_Ek E) (C : o_Cx E p s m args meth c D o_cls (o_tys ca) "SchemaJudge$Text" b_Tx_endNumber none 6 cc_Tx_endNumber A) (hDD : ∀ (rt : Nat) (Sj : SSJ) (T0 : STx) (T1 : STx) (Rd : SRd) (Pg : SPg) (Pt : SPt) (Mk : SMk) (Lk : SLk) (Ck : SCk) (Jd : SJd) (Ld : SLd) (Pr : SPr), va_D A (o_cw ad ca rt Sj T0 T1 Rd Pg Pt Mk Lk Ck Jd Ld Pr)) (n : Nat) (u27_x1 : Int32) (u27_x2 : Int32) (u27_x3 : Int32) (u27_x4 : Int32) (u27_a0 : STx) (u27_Sj : SSJ) (u27_T1 : STx) (u27_Rd : SRd) (u27_Pg : SPg) (u27_Pt : SPt) (u27_Mk : SMk) (u27_Lk : SLk) (u27_Ck : SCk) (u27_Jd : SJd) (u27_Ld : SLd) (u27_Pr : SPr) (u27_rt : Nat) (z : Int32) (q : Nat × Int32) (h : m_Tx_endNumber_b27 n u27_x1 u27_x2 u27_x3 u27_x4 u27_a0 z = some q) (h0 : q.1 = 0 → o_At p l e rm_Tx_endNumber s m args below meth c Q o_cls D A 6 27 [] (o_cw ad ca u27_rt u27_Sj u27_a0 u27_T1 u27_Rd u27_Pg u27_Pt u27_Mk u27_Lk u27_Ck u27_Jd u27_Ld u27_Pr) [(0, .ref (ad 1)), (1, .int u27_x1), (2, .int u27_x2), (3, .int u27_x3), (4, .int u27_x4), (5, .int q.2)]) (h1 : q.1 ≠ 0 → (o_At p l e rm_Tx_endNumber s m args below meth c Q o_cls D A 6 52 [] (o_cw ad ca u27_rt u27_Sj u27_a0 u27_T1 u27_Rd u27_Pg u27_Pt u27_Mk u27_Lk u27_Ck u27_Jd u27_Ld u27_Pr) [(0, .ref (ad 1)), (1, .int u27_x1), (2, .int u27_x2), (3, .int u27_x3), (4, .int u27_x4), (5, .int q.2)])) : o_At p l e rm_Tx_endNumber s m args below meth c Q o_cls D A 6 27 [] (o_cw ad ca u27_rt u27_Sj u27_a0 u27_T1 u27_Rd u27_Pg u27_Pt u27_Mk u27_Lk u27_Ck u27_Jd u27_Ld u27_Pr) [(0, .ref (ad 1)), (1, .int u27_x1), (2, .int u27_x2), (3, .int u27_x3), (4, .int u27_x4), (5, .int z)] := by
  unfold m_Tx_endNumber_b27 at h
  intro H locs ls hP hS hl
  have C0 := C
  obtain ⟨hx, hb, -, -, -, hown, hts, hK, -, -⟩ := C0
  refine lv_iload hx hb d_Tx_endNumber_27 (lv_at hl 5 rfl) ?_
  refine lv_iload hx hb d_Tx_endNumber_29 (lv_at hl 4 rfl) ?_
  refine lv_icmp_le (tgt := 52) hx hb d_Tx_endNumber_31 (by decide) (fun c4 => ?_) (fun c4 => ?_)
  · replace h := o_tt c4 h
    cases h
    exact h1 (Nat.succ_ne_zero 0) _ _ _ hP hS (lv_sub hl [0, 1, 2, 3, 4, 5] rfl)
  · replace h := o_ff c4 h
    refine lv_aload_n hx hb d_Tx_endNumber_34 rfl (lv_at hl 0 rfl) ?_
    refine o_get (v := .ref (ad 11)) C in_Tx hP 1 cw_1 rfl 9 (by decide) k_1_55 rfl rfl d_Tx_endNumber_35 ?_
    refine lv_iload hx hb d_Tx_endNumber_38 (lv_at hl 5 rfl) ?_
    refine lv_iconst (v := (1:Int32)) hx hb d_Tx_endNumber_40 (by decide) ?_
    refine lv_isub hx hb d_Tx_endNumber_41 ?_
    obtain ⟨g5, h⟩ := o_gd_some h
    refine o_iald (f := (Tx_cells u27_a0)) C hP 11 9 cw_11 rfl g5 d_Tx_endNumber_42 ?_
    refine lv_if_ne (tgt := 52) hx hb d_Tx_endNumber_43 (by decide) (fun c6 => ?_) (fun c6 => ?_)
    · replace h := o_ff c6 h
      cases h
      exact h1 (Nat.succ_ne_zero 0) _ _ _ hP hS (lv_sub hl [0, 1, 2, 3, 4, 5] rfl)
    · replace h := o_tt c6 h
      obtain ⟨x5_46, ex5_46⟩ : ∃ y : Int32, y = z + (-1:Int32) := ⟨_, rfl⟩
      replace h := o_nm_at ex5_46 h
      refine lv_iinc (v := x5_46) (lv' := [(5, .int x5_46), (0, .ref (ad 1)), (1, .int u27_x1), (2, .int u27_x2), (3, .int u27_x3), (4, .int u27_x4)]) hx hb d_Tx_endNumber_46 hl (k := 5) rfl (by rw [ex5_46]; rfl) (by decide) rfl (fun ls hl => ?_)
      refine lv_goto (tgt := 27) hx hb d_Tx_endNumber_49 (by decide) ?_
      cases h
      exact h0 rfl _ _ _ hP hS (lv_sub hl [1, 2, 3, 4, 5, 0] rfl)
set_option maxHeartbeats 4000000 in
set_option maxRecDepth 100000 in
theorem w_Tx_endNumber_b52_0 {E : (Nat → Prop) → State → Heap → Prop} {p : Program} {l : Launch} {e : Env} {s : State} {m : MethodId} {args : Array Value} {below : List Frame} {meth : Method} {c : Code} {D : va_G} {ad : Nat → Nat} {ca : Nat → ClassId} {A : Nat → Prop} {Q : State → Prop} (hE : o_Ek E) (C : o_Cx E p s m args meth c D o_cls (o_tys ca) "SchemaJudge$Text" b_Tx_endNumber none 6 cc_Tx_endNumber A) (hDD : ∀ (rt : Nat) (Sj : SSJ) (T0 : STx) (T1 : STx) (Rd : SRd) (Pg : SPg) (Pt : SPt) (Mk : SMk) (Lk : SLk) (Ck : SCk) (Jd : SJd) (Ld : SLd) (Pr : SPr), va_D A (o_cw ad ca rt Sj T0 T1 Rd Pg Pt Mk Lk Ck Jd Ld Pr)) (n : Nat) (u52_x1 : Int32) (u52_x2 : Int32) (u52_x3 : Int32) (u52_x5 : Int32) (u52_a0 : STx) (u52_Sj : SSJ) (u52_T1 : STx) (u52_Rd : SRd) (u52_Pg : SPg) (u52_Pt : SPt) (u52_Mk : SMk) (u52_Lk : SLk) (u52_Ck : SCk) (u52_Jd : SJd) (u52_Ld : SLd) (u52_Pr : SPr) (u52_rt : Nat) (z : Int32) (q : Nat × Int32) (h : m_Tx_endNumber_b52 n u52_x1 u52_x2 u52_x3 u52_x5 u52_a0 z = some q) (h0 : q.1 = 0 → o_At p l e rm_Tx_endNumber s m args below meth c Q o_cls D A 6 52 [] (o_cw ad ca u52_rt u52_Sj u52_a0 u52_T1 u52_Rd u52_Pg u52_Pt u52_Mk u52_Lk u52_Ck u52_Jd u52_Ld u52_Pr) [(0, .ref (ad 1)), (1, .int u52_x1), (2, .int u52_x2), (3, .int u52_x3), (4, .int q.2), (5, .int u52_x5)]) (h1 : q.1 ≠ 0 → (o_At p l e rm_Tx_endNumber s m args below meth c Q o_cls D A 6 75 [] (o_cw ad ca u52_rt u52_Sj u52_a0 u52_T1 u52_Rd u52_Pg u52_Pt u52_Mk u52_Lk u52_Ck u52_Jd u52_Ld u52_Pr) [(0, .ref (ad 1)), (1, .int u52_x1), (2, .int u52_x2), (3, .int u52_x3), (4, .int q.2), (5, .int u52_x5)])) : o_At p l e rm_Tx_endNumber s m args below meth c Q o_cls D A 6 52 [] (o_cw ad ca u52_rt u52_Sj u52_a0 u52_T1 u52_Rd u52_Pg u52_Pt u52_Mk u52_Lk u52_Ck u52_Jd u52_Ld u52_Pr) [(0, .ref (ad 1)), (1, .int u52_x1), (2, .int u52_x2), (3, .int u52_x3), (4, .int z), (5, .int u52_x5)] := by
  unfold m_Tx_endNumber_b52 at h
  intro H locs ls hP hS hl
  have C0 := C
  obtain ⟨hx, hb, -, -, -, hown, hts, hK, -, -⟩ := C0
  refine lv_iload hx hb d_Tx_endNumber_52 (lv_at hl 4 rfl) ?_
  refine lv_iload hx hb d_Tx_endNumber_54 (lv_at hl 5 rfl) ?_
  refine lv_icmp_ge (tgt := 75) hx hb d_Tx_endNumber_56 (by decide) (fun c7 => ?_) (fun c7 => ?_)
  · replace h := o_tt c7 h
    cases h
    exact h1 (Nat.succ_ne_zero 0) _ _ _ hP hS (lv_sub hl [0, 1, 2, 3, 4, 5] rfl)
  · replace h := o_ff c7 h
    refine lv_aload_n hx hb d_Tx_endNumber_59 rfl (lv_at hl 0 rfl) ?_
    refine o_get (v := .ref (ad 11)) C in_Tx hP 1 cw_1 rfl 9 (by decide) k_1_55 rfl rfl d_Tx_endNumber_60 ?_
    refine lv_iload hx hb d_Tx_endNumber_63 (lv_at hl 4 rfl) ?_
    obtain ⟨g8, h⟩ := o_gd_some h
    refine o_iald (f := (Tx_cells u52_a0)) C hP 11 9 cw_11 rfl g8 d_Tx_endNumber_65 ?_
    refine lv_if_ne (tgt := 75) hx hb d_Tx_endNumber_66 (by decide) (fun c9 => ?_) (fun c9 => ?_)
    · replace h := o_ff c9 h
      cases h
      exact h1 (Nat.succ_ne_zero 0) _ _ _ hP hS (lv_sub hl [0, 1, 2, 3, 4, 5] rfl)
    · replace h := o_tt c9 h
      obtain ⟨x4_69, ex4_69⟩ : ∃ y : Int32, y = z + (1:Int32) := ⟨_, rfl⟩
      replace h := o_nm_at ex4_69 h
      refine lv_iinc (v := x4_69) (lv' := [(4, .int x4_69), (0, .ref (ad 1)), (1, .int u52_x1), (2, .int u52_x2), (3, .int u52_x3), (5, .int u52_x5)]) hx hb d_Tx_endNumber_69 hl (k := 4) rfl (by rw [ex4_69]; rfl) (by decide) rfl (fun ls hl => ?_)
      refine lv_goto (tgt := 52) hx hb d_Tx_endNumber_72 (by decide) ?_
      cases h
      exact h0 rfl _ _ _ hP hS (lv_sub hl [1, 2, 3, 4, 0, 5] rfl)
set_option maxHeartbeats 4000000 in
set_option maxRecDepth 100000 in
theorem w_Tx_endNumber_j119_0 {E : (Nat → Prop) → State → Heap → Prop} {p : Program} {l : Launch} {e : Env} {s : State} {m : MethodId} {args : Array Value} {below : List Frame} {meth : Method} {c : Code} {D : va_G} {ad : Nat → Nat} {ca : Nat → ClassId} {A : Nat → Prop} (hE : o_Ek E) (C : o_Cx E p s m args meth c D o_cls (o_tys ca) "SchemaJudge$Text" b_Tx_endNumber none 6 cc_Tx_endNumber A) (hDD : ∀ (rt : Nat) (Sj : SSJ) (T0 : STx) (T1 : STx) (Rd : SRd) (Pg : SPg) (Pt : SPt) (Mk : SMk) (Lk : SLk) (Ck : SCk) (Jd : SJd) (Ld : SLd) (Pr : SPr), va_D A (o_cw ad ca rt Sj T0 T1 Rd Pg Pt Mk Lk Ck Jd Ld Pr)) (n : Nat) (x1 : Int32) (x2 : Int32) (x4 : Int32) (x5 : Int32) (y1 : Int32) (y2 : Int32) (a0 : STx) (Sj : SSJ) (T1 : STx) (Rd : SRd) (Pg : SPg) (Pt : SPt) (Mk : SMk) (Lk : SLk) (Ck : SCk) (Jd : SJd) (Ld : SLd) (Pr : SPr) (rt : Nat) {r : STx} (h : m_Tx_endNumber_j119 n x1 x2 x4 x5 y1 y2 a0 = some r) : o_At p l e rm_Tx_endNumber s m args below meth c (MQ below (o_Qx D o_cls none (o_cw ad ca rt Sj r T1 Rd Pg Pt Mk Lk Ck Jd Ld Pr) A) args s 0 0 A) o_cls D A 6 119 [.int y2, .int y1, .ref (ad 6)] (o_cw ad ca rt Sj a0 T1 Rd Pg Pt Mk Lk Ck Jd Ld Pr) [(0, .ref (ad 1)), (1, .int x1), (2, .int x2), (4, .int x4), (5, .int x5)] := by
  unfold m_Tx_endNumber_j119 at h
  intro H locs ls hP hS hl
  have C0 := C
  obtain ⟨hx, hb, -, -, -, hown, hts, hK, -, -⟩ := C0
  obtain ⟨g13, h⟩ := o_gd_some h
  refine o_iast (f := (Tx_exponents a0)) (w1 := (o_cw ad ca rt Sj (Tx_mk (Tx_kinds a0) (Tx_places a0) (Tx_sizes a0) (Tx_parents a0) (upd (Tx_exponents a0) y1.toNatClampNeg y2) (Tx_starts a0) (Tx_afters a0) (Tx_slots a0) (Tx_negatives a0) (Tx_cells a0) (Tx_total a0) (Tx_used a0) (Tx_characters a0)) T1 Rd Pg Pt Mk Lk Ck Jd Ld Pr)) C hP (hDD _ _ _ _ _ _ _ _ _ _ _ _ _) hS 6 4 cw_6 rfl g13 rfl d_Tx_endNumber_119 (fun H locs hP hS => ?_)
  refine lv_aload_n hx hb d_Tx_endNumber_120 rfl (lv_at hl 0 rfl) ?_
  refine o_get (v := .ref (ad 10)) C in_Tx hP 1 cw_1 rfl 8 (by decide) k_1_54 rfl rfl d_Tx_endNumber_121 ?_
  refine lv_iload_n hx hb d_Tx_endNumber_124 rfl (lv_at hl 1 rfl) ?_
  refine lv_iload_n hx hb d_Tx_endNumber_125 rfl (lv_at hl 2 rfl) ?_
  refine lv_if_eq (tgt := 140) hx hb d_Tx_endNumber_126 (by decide) (fun c14 => ?_) (fun c14 => ?_)
  · replace h := o_tt c14 h
    refine lv_iconst (v := (0:Int32)) hx hb d_Tx_endNumber_140 (by decide) ?_
    obtain ⟨g15, h⟩ := o_gd_some h
    refine o_zast (f := (Tx_negatives a0)) (w1 := (o_cw ad ca rt Sj (Tx_mk (Tx_kinds a0) (Tx_places a0) (Tx_sizes a0) (Tx_parents a0) (upd (Tx_exponents a0) y1.toNatClampNeg y2) (Tx_starts a0) (Tx_afters a0) (Tx_slots a0) (upd (Tx_negatives a0) x1.toNatClampNeg (vp_nar .boolean (0:Int32))) (Tx_cells a0) (Tx_total a0) (Tx_used a0) (Tx_characters a0)) T1 Rd Pg Pt Mk Lk Ck Jd Ld Pr)) C hP (hDD _ _ _ _ _ _ _ _ _ _ _ _ _) hS 10 8 cw_10 rfl g15 rfl d_Tx_endNumber_141 (fun H locs hP hS => ?_)
    cases h
    exact o_rv C hP hS d_Tx_endNumber_142
  · replace h := o_ff c14 h
    refine lv_iload hx hb d_Tx_endNumber_129 (lv_at hl 4 rfl) ?_
    refine lv_iload hx hb d_Tx_endNumber_131 (lv_at hl 3 rfl) ?_
    refine lv_icmp_le (tgt := 140) hx hb d_Tx_endNumber_133 (by decide) (fun c16 => ?_) (fun c16 => ?_)
    · replace h := o_tt c16 h
      refine lv_iconst (v := (0:Int32)) hx hb d_Tx_endNumber_140 (by decide) ?_
      obtain ⟨g17, h⟩ := o_gd_some h
      refine o_zast (f := (Tx_negatives a0)) (w1 := (o_cw ad ca rt Sj (Tx_mk (Tx_kinds a0) (Tx_places a0) (Tx_sizes a0) (Tx_parents a0) (upd (Tx_exponents a0) y1.toNatClampNeg y2) (Tx_starts a0) (Tx_afters a0) (Tx_slots a0) (upd (Tx_negatives a0) x1.toNatClampNeg (vp_nar .boolean (0:Int32))) (Tx_cells a0) (Tx_total a0) (Tx_used a0) (Tx_characters a0)) T1 Rd Pg Pt Mk Lk Ck Jd Ld Pr)) C hP (hDD _ _ _ _ _ _ _ _ _ _ _ _ _) hS 10 8 cw_10 rfl g17 rfl d_Tx_endNumber_141 (fun H locs hP hS => ?_)
      cases h
      exact o_rv C hP hS d_Tx_endNumber_142
    · replace h := o_ff c16 h
      refine lv_iconst (v := (1:Int32)) hx hb d_Tx_endNumber_136 (by decide) ?_
      refine lv_goto (tgt := 141) hx hb d_Tx_endNumber_137 (by decide) ?_
      obtain ⟨g18, h⟩ := o_gd_some h
      refine o_zast (f := (Tx_negatives a0)) (w1 := (o_cw ad ca rt Sj (Tx_mk (Tx_kinds a0) (Tx_places a0) (Tx_sizes a0) (Tx_parents a0) (upd (Tx_exponents a0) y1.toNatClampNeg y2) (Tx_starts a0) (Tx_afters a0) (Tx_slots a0) (upd (Tx_negatives a0) x1.toNatClampNeg (vp_nar .boolean (1:Int32))) (Tx_cells a0) (Tx_total a0) (Tx_used a0) (Tx_characters a0)) T1 Rd Pg Pt Mk Lk Ck Jd Ld Pr)) C hP (hDD _ _ _ _ _ _ _ _ _ _ _ _ _) hS 10 8 cw_10 rfl g18 rfl d_Tx_endNumber_141 (fun H locs hP hS => ?_)
      cases h
      exact o_rv C hP hS d_Tx_endNumber_142
set_option maxHeartbeats 4000000 in
set_option maxRecDepth 100000 in
theorem w_Tx_endNumber_j75_0 {E : (Nat → Prop) → State → Heap → Prop} {p : Program} {l : Launch} {e : Env} {s : State} {m : MethodId} {args : Array Value} {below : List Frame} {meth : Method} {c : Code} {D : va_G} {ad : Nat → Nat} {ca : Nat → ClassId} {A : Nat → Prop} (hE : o_Ek E) (C : o_Cx E p s m args meth c D o_cls (o_tys ca) "SchemaJudge$Text" b_Tx_endNumber none 6 cc_Tx_endNumber A) (hDD : ∀ (rt : Nat) (Sj : SSJ) (T0 : STx) (T1 : STx) (Rd : SRd) (Pg : SPg) (Pt : SPt) (Mk : SMk) (Lk : SLk) (Ck : SCk) (Jd : SJd) (Ld : SLd) (Pr : SPr), va_D A (o_cw ad ca rt Sj T0 T1 Rd Pg Pt Mk Lk Ck Jd Ld Pr)) (n : Nat) (x1 : Int32) (x2 : Int32) (x3 : Int32) (x4 : Int32) (x5 : Int32) (a0 : STx) (Sj : SSJ) (T1 : STx) (Rd : SRd) (Pg : SPg) (Pt : SPt) (Mk : SMk) (Lk : SLk) (Ck : SCk) (Jd : SJd) (Ld : SLd) (Pr : SPr) (rt : Nat) {r : STx} (h : m_Tx_endNumber_j75 n x1 x2 x3 x4 x5 a0 = some r) : o_At p l e rm_Tx_endNumber s m args below meth c (MQ below (o_Qx D o_cls none (o_cw ad ca rt Sj r T1 Rd Pg Pt Mk Lk Ck Jd Ld Pr) A) args s 0 0 A) o_cls D A 6 75 [] (o_cw ad ca rt Sj a0 T1 Rd Pg Pt Mk Lk Ck Jd Ld Pr) [(0, .ref (ad 1)), (1, .int x1), (2, .int x2), (3, .int x3), (4, .int x4), (5, .int x5)] := by
  unfold m_Tx_endNumber_j75 at h
  intro H locs ls hP hS hl
  have C0 := C
  obtain ⟨hx, hb, -, -, -, hown, hts, hK, -, -⟩ := C0
  refine lv_aload_n hx hb d_Tx_endNumber_75 rfl (lv_at hl 0 rfl) ?_
  refine o_get (v := .ref (ad 7)) C in_Tx hP 1 cw_1 rfl 5 (by decide) k_1_51 rfl rfl d_Tx_endNumber_76 ?_
  refine lv_iload_n hx hb d_Tx_endNumber_79 rfl (lv_at hl 1 rfl) ?_
  refine lv_iload hx hb d_Tx_endNumber_80 (lv_at hl 4 rfl) ?_
  obtain ⟨g10, h⟩ := o_gd_some h
  refine o_iast (f := (Tx_starts a0)) (w1 := (o_cw ad ca rt Sj (Tx_mk (Tx_kinds a0) (Tx_places a0) (Tx_sizes a0) (Tx_parents a0) (Tx_exponents a0) (upd (Tx_starts a0) x1.toNatClampNeg x4) (Tx_afters a0) (Tx_slots a0) (Tx_negatives a0) (Tx_cells a0) (Tx_total a0) (Tx_used a0) (Tx_characters a0)) T1 Rd Pg Pt Mk Lk Ck Jd Ld Pr)) C hP (hDD _ _ _ _ _ _ _ _ _ _ _ _ _) hS 7 5 cw_7 rfl g10 rfl d_Tx_endNumber_82 (fun H locs hP hS => ?_)
  refine lv_aload_n hx hb d_Tx_endNumber_83 rfl (lv_at hl 0 rfl) ?_
  refine o_get (v := .ref (ad 4)) C in_Tx hP 1 cw_1 rfl 2 (by decide) k_1_48 rfl rfl d_Tx_endNumber_84 ?_
  refine lv_iload_n hx hb d_Tx_endNumber_87 rfl (lv_at hl 1 rfl) ?_
  refine lv_iload hx hb d_Tx_endNumber_88 (lv_at hl 5 rfl) ?_
  refine lv_iload hx hb d_Tx_endNumber_90 (lv_at hl 4 rfl) ?_
  refine lv_isub hx hb d_Tx_endNumber_92 ?_
  obtain ⟨g11, h⟩ := o_gd_some h
  refine o_iast (f := (Tx_sizes a0)) (w1 := (o_cw ad ca rt Sj (Tx_mk (Tx_kinds a0) (Tx_places a0) (upd (Tx_sizes a0) x1.toNatClampNeg (x5 - x4)) (Tx_parents a0) (Tx_exponents a0) (upd (Tx_starts a0) x1.toNatClampNeg x4) (Tx_afters a0) (Tx_slots a0) (Tx_negatives a0) (Tx_cells a0) (Tx_total a0) (Tx_used a0) (Tx_characters a0)) T1 Rd Pg Pt Mk Lk Ck Jd Ld Pr)) C hP (hDD _ _ _ _ _ _ _ _ _ _ _ _ _) hS 4 2 cw_4 rfl g11 rfl d_Tx_endNumber_93 (fun H locs hP hS => ?_)
  refine lv_aload_n hx hb d_Tx_endNumber_94 rfl (lv_at hl 0 rfl) ?_
  refine o_get (v := .ref (ad 6)) C in_Tx hP 1 cw_1 rfl 4 (by decide) k_1_50 rfl rfl d_Tx_endNumber_95 ?_
  refine lv_iload_n hx hb d_Tx_endNumber_98 rfl (lv_at hl 1 rfl) ?_
  refine lv_iload hx hb d_Tx_endNumber_99 (lv_at hl 5 rfl) ?_
  refine lv_iload hx hb d_Tx_endNumber_101 (lv_at hl 4 rfl) ?_
  refine lv_icmp_ne (tgt := 110) hx hb d_Tx_endNumber_103 (by decide) (fun c12 => ?_) (fun c12 => ?_)
  · replace h := o_ff c12 h
    refine lv_iload_n hx hb d_Tx_endNumber_110 rfl (lv_at hl 3 rfl) ?_
    refine lv_aload_n hx hb d_Tx_endNumber_111 rfl (lv_at hl 0 rfl) ?_
    refine o_get (v := .int (Tx_used a0)) C in_Tx hP 1 cw_1 rfl 11 (by decide) k_1_57 rfl rfl d_Tx_endNumber_112 ?_
    refine lv_iadd hx hb d_Tx_endNumber_115 ?_
    refine lv_iload hx hb d_Tx_endNumber_116 (lv_at hl 5 rfl) ?_
    refine lv_isub hx hb d_Tx_endNumber_118 ?_
    exact w_Tx_endNumber_j119_0 hE C hDD n x1 x2 x4 x5 x1 ((x3 + (Tx_used a0)) - x5) (Tx_mk (Tx_kinds a0) (Tx_places a0) (upd (Tx_sizes a0) x1.toNatClampNeg (x5 - x4)) (Tx_parents a0) (Tx_exponents a0) (upd (Tx_starts a0) x1.toNatClampNeg x4) (Tx_afters a0) (Tx_slots a0) (Tx_negatives a0) (Tx_cells a0) (Tx_total a0) (Tx_used a0) (Tx_characters a0)) Sj T1 Rd Pg Pt Mk Lk Ck Jd Ld Pr rt h _ _ _ hP hS (lv_sub hl [0, 1, 2, 4, 5] rfl)
  · replace h := o_tt c12 h
    refine lv_iconst (v := (0:Int32)) hx hb d_Tx_endNumber_106 (by decide) ?_
    refine lv_goto (tgt := 119) hx hb d_Tx_endNumber_107 (by decide) ?_
    exact w_Tx_endNumber_j119_0 hE C hDD n x1 x2 x4 x5 x1 (0:Int32) (Tx_mk (Tx_kinds a0) (Tx_places a0) (upd (Tx_sizes a0) x1.toNatClampNeg (x5 - x4)) (Tx_parents a0) (Tx_exponents a0) (upd (Tx_starts a0) x1.toNatClampNeg x4) (Tx_afters a0) (Tx_slots a0) (Tx_negatives a0) (Tx_cells a0) (Tx_total a0) (Tx_used a0) (Tx_characters a0)) Sj T1 Rd Pg Pt Mk Lk Ck Jd Ld Pr rt h _ _ _ hP hS (lv_sub hl [0, 1, 2, 4, 5] rfl)
set_option maxHeartbeats 4000000 in
set_option maxRecDepth 100000 in
theorem c_Tx_endNumber_0 {E : (Nat → Prop) → State → Heap → Prop} {D : va_G} {ad : Nat → Nat} {ca : Nat → ClassId} (hE : o_Ek E) (l : Launch) (n : Nat) (x1 : Int32) (x2 : Int32) (x3 : Int32) (a0 : STx) (Sj : SSJ) (T1 : STx) (Rd : SRd) (Pg : SPg) (Pt : SPt) (Mk : SMk) (Lk : SLk) (Ck : SCk) (Jd : SJd) (Ld : SLd) (Pr : SPr) (rt : Nat) {r : STx} (h : m_Tx_endNumber n x1 x2 x3 a0 = some r) : o_Cn E l D o_cls (o_tys ca) y_Tx_endNumber cc_Tx_endNumber rm_Tx_endNumber [.ref (ad 1), .int x1, .int x2, .int x3] (o_cw ad ca rt Sj a0 T1 Rd Pg Pt Mk Lk Ck Jd Ld Pr) (o_cw ad ca rt Sj r T1 Rd Pg Pt Mk Lk Ck Jd Ld Pr) none := by
  refine o_Cn_of (by decide) (Nat.le_of_ble_eq_true rfl) ?_
  intro p e s m below meth c A ls C hD hP hS hl
  have hDD : ∀ (rt : Nat) (Sj : SSJ) (T0 : STx) (T1 : STx) (Rd : SRd) (Pg : SPg) (Pt : SPt) (Mk : SMk) (Lk : SLk) (Ck : SCk) (Jd : SJd) (Ld : SLd) (Pr : SPr), va_D A (o_cw ad ca rt Sj T0 T1 Rd Pg Pt Mk Lk Ck Jd Ld Pr) := fun _ _ _ _ _ _ _ _ _ _ _ _ _ => o_D_map hD rfl
  have hl : lv_has ls 6 [(0, .ref (ad 1)), (1, .int x1), (2, .int x2), (3, .int x3)] := hl
  unfold m_Tx_endNumber at h
  have C0 := C
  obtain ⟨hx, hb, -, -, -, hown, hts, hK, -, -⟩ := C0
  refine lv_iload_n hx hb d_Tx_endNumber_0 rfl (lv_at hl 1 rfl) ?_
  refine lv_if_lt (tgt := 12) hx hb d_Tx_endNumber_1 (by decide) (fun c1 => ?_) (fun c1 => ?_)
  · replace h := o_tt c1 h
    cases h
    exact o_rv C hP hS d_Tx_endNumber_12
  · replace h := o_ff c1 h
    refine lv_iload_n hx hb d_Tx_endNumber_4 rfl (lv_at hl 1 rfl) ?_
    refine lv_aload_n hx hb d_Tx_endNumber_5 rfl (lv_at hl 0 rfl) ?_
    refine o_get (v := .int (Tx_total a0)) C in_Tx hP 1 cw_1 rfl 10 (by decide) k_1_56 rfl rfl d_Tx_endNumber_6 ?_
    refine lv_icmp_lt (tgt := 13) hx hb d_Tx_endNumber_9 (by decide) (fun c2 => ?_) (fun c2 => ?_)
    · replace h := o_tt c2 h
      refine lv_aload_n hx hb d_Tx_endNumber_13 rfl (lv_at hl 0 rfl) ?_
      refine o_get (v := .ref (ad 7)) C in_Tx hP 1 cw_1 rfl 5 (by decide) k_1_51 rfl rfl d_Tx_endNumber_14 ?_
      refine lv_iload_n hx hb d_Tx_endNumber_17 rfl (lv_at hl 1 rfl) ?_
      obtain ⟨g3, h⟩ := o_gd_some h
      refine o_iald (f := (Tx_starts a0)) C hP 7 5 cw_7 rfl g3 d_Tx_endNumber_18 ?_
      refine lv_topi (fun x4_19 ex4_19 => ?_)
      replace h := o_nm_at ex4_19 h
      refine lv_istore (lv' := [(4, .int x4_19), (0, .ref (ad 1)), (1, .int x1), (2, .int x2), (3, .int x3)]) hx hb d_Tx_endNumber_19 hl (by decide) rfl (fun ls hl => ?_)
      refine lv_aload_n hx hb d_Tx_endNumber_21 rfl (lv_at hl 1 rfl) ?_
      refine o_get (v := .int (Tx_used a0)) C in_Tx hP 1 cw_1 rfl 11 (by decide) k_1_57 rfl rfl d_Tx_endNumber_22 ?_
      refine lv_topi (fun x5_25 ex5_25 => ?_)
      replace h := o_nm_at ex5_25 h
      refine lv_istore (lv' := [(5, .int x5_25), (4, .int x4_19), (0, .ref (ad 1)), (1, .int x1), (2, .int x2), (3, .int x3)]) hx hb d_Tx_endNumber_25 hl (by decide) rfl (fun ls hl => ?_)
      obtain ⟨q1, hq1, h⟩ := o_bd_some h
      refine o_sim2 (AH := fun z => o_At p l e rm_Tx_endNumber s m _ below meth c _ o_cls D A 6 27 [] (o_cw ad ca rt Sj a0 T1 Rd Pg Pt Mk Lk Ck Jd Ld Pr) [(0, .ref (ad 1)), (1, .int x1), (2, .int x2), (3, .int x3), (4, .int x4_19), (5, .int z)]) (AX := fun q => o_At p l e rm_Tx_endNumber s m _ below meth c _ o_cls D A 6 52 [] (o_cw ad ca rt Sj a0 T1 Rd Pg Pt Mk Lk Ck Jd Ld Pr) [(0, .ref (ad 1)), (1, .int x1), (2, .int x2), (3, .int x3), (4, .int x4_19), (5, .int q.2)]) (fun z q h h0 h1 => w_Tx_endNumber_b27_0 hE C hDD n x1 x2 x3 x4_19 a0 Sj T1 Rd Pg Pt Mk Lk Ck Jd Ld Pr rt z q h h0 h1) n _ q1 hq1 ?_ _ _ _ hP hS (lv_sub hl [2, 3, 4, 5, 1, 0] rfl)
      intro H locs ls hP hS hl
      obtain ⟨q2, hq2, h⟩ := o_bd_some h
      refine o_sim2 (AH := fun z => o_At p l e rm_Tx_endNumber s m _ below meth c _ o_cls D A 6 52 [] (o_cw ad ca rt Sj a0 T1 Rd Pg Pt Mk Lk Ck Jd Ld Pr) [(0, .ref (ad 1)), (1, .int x1), (2, .int x2), (3, .int x3), (4, .int z), (5, .int q1.2)]) (AX := fun q => o_At p l e rm_Tx_endNumber s m _ below meth c _ o_cls D A 6 75 [] (o_cw ad ca rt Sj a0 T1 Rd Pg Pt Mk Lk Ck Jd Ld Pr) [(0, .ref (ad 1)), (1, .int x1), (2, .int x2), (3, .int x3), (4, .int q.2), (5, .int q1.2)]) (fun z q h h0 h1 => w_Tx_endNumber_b52_0 hE C hDD n x1 x2 x3 q1.2 a0 Sj T1 Rd Pg Pt Mk Lk Ck Jd Ld Pr rt z q h h0 h1) n _ q2 hq2 ?_ _ _ _ hP hS (lv_sub hl [0, 1, 2, 3, 4, 5] rfl)
      intro H locs ls hP hS hl
      exact w_Tx_endNumber_j75_0 hE C hDD n x1 x2 x3 q2.2 q1.2 a0 Sj T1 Rd Pg Pt Mk Lk Ck Jd Ld Pr rt h _ _ _ hP hS (lv_sub hl [0, 1, 2, 3, 4, 5] rfl)
    · replace h := o_ff c2 h
      cases h
      exact o_rv C hP hS d_Tx_endNumber_12
set_option maxHeartbeats 4000000 in
set_option maxRecDepth 100000 in
theorem w_Tx_endNumber_b27_1 {E : (Nat → Prop) → State → Heap → Prop} {p : Program} {l : Launch} {e : Env} {s : State} {m : MethodId} {args : Array Value} {below : List Frame} {meth : Method} {c : Code} {D : va_G} {ad : Nat → Nat} {ca : Nat → ClassId} {A : Nat → Prop} {Q : State → Prop} (hE : o_Ek E) (C : o_Cx E p s m args meth c D o_cls (o_tys ca) "SchemaJudge$Text" b_Tx_endNumber none 6 cc_Tx_endNumber A) (hDD : ∀ (rt : Nat) (Sj : SSJ) (T0 : STx) (T1 : STx) (Rd : SRd) (Pg : SPg) (Pt : SPt) (Mk : SMk) (Lk : SLk) (Ck : SCk) (Jd : SJd) (Ld : SLd) (Pr : SPr), va_D A (o_cw ad ca rt Sj T0 T1 Rd Pg Pt Mk Lk Ck Jd Ld Pr)) (n : Nat) (u27_x1 : Int32) (u27_x2 : Int32) (u27_x3 : Int32) (u27_x4 : Int32) (u27_a0 : STx) (u27_Sj : SSJ) (u27_T0 : STx) (u27_Rd : SRd) (u27_Pg : SPg) (u27_Pt : SPt) (u27_Mk : SMk) (u27_Lk : SLk) (u27_Ck : SCk) (u27_Jd : SJd) (u27_Ld : SLd) (u27_Pr : SPr) (u27_rt : Nat) (z : Int32) (q : Nat × Int32) (h : m_Tx_endNumber_b27 n u27_x1 u27_x2 u27_x3 u27_x4 u27_a0 z = some q) (h0 : q.1 = 0 → o_At p l e rm_Tx_endNumber s m args below meth c Q o_cls D A 6 27 [] (o_cw ad ca u27_rt u27_Sj u27_T0 u27_a0 u27_Rd u27_Pg u27_Pt u27_Mk u27_Lk u27_Ck u27_Jd u27_Ld u27_Pr) [(0, .ref (ad 12)), (1, .int u27_x1), (2, .int u27_x2), (3, .int u27_x3), (4, .int u27_x4), (5, .int q.2)]) (h1 : q.1 ≠ 0 → (o_At p l e rm_Tx_endNumber s m args below meth c Q o_cls D A 6 52 [] (o_cw ad ca u27_rt u27_Sj u27_T0 u27_a0 u27_Rd u27_Pg u27_Pt u27_Mk u27_Lk u27_Ck u27_Jd u27_Ld u27_Pr) [(0, .ref (ad 12)), (1, .int u27_x1), (2, .int u27_x2), (3, .int u27_x3), (4, .int u27_x4), (5, .int q.2)])) : o_At p l e rm_Tx_endNumber s m args below meth c Q o_cls D A 6 27 [] (o_cw ad ca u27_rt u27_Sj u27_T0 u27_a0 u27_Rd u27_Pg u27_Pt u27_Mk u27_Lk u27_Ck u27_Jd u27_Ld u27_Pr) [(0, .ref (ad 12)), (1, .int u27_x1), (2, .int u27_x2), (3, .int u27_x3), (4, .int u27_x4), (5, .int z)] := by
  unfold m_Tx_endNumber_b27 at h
  intro H locs ls hP hS hl
  have C0 := C
  obtain ⟨hx, hb, -, -, -, hown, hts, hK, -, -⟩ := C0
  refine lv_iload hx hb d_Tx_endNumber_27 (lv_at hl 5 rfl) ?_
  refine lv_iload hx hb d_Tx_endNumber_29 (lv_at hl 4 rfl) ?_
  refine lv_icmp_le (tgt := 52) hx hb d_Tx_endNumber_31 (by decide) (fun c4 => ?_) (fun c4 => ?_)
  · replace h := o_tt c4 h
    cases h
    exact h1 (Nat.succ_ne_zero 0) _ _ _ hP hS (lv_sub hl [0, 1, 2, 3, 4, 5] rfl)
  · replace h := o_ff c4 h
    refine lv_aload_n hx hb d_Tx_endNumber_34 rfl (lv_at hl 0 rfl) ?_
    refine o_get (v := .ref (ad 22)) C in_Tx hP 12 cw_12 rfl 9 (by decide) k_1_55 rfl rfl d_Tx_endNumber_35 ?_
    refine lv_iload hx hb d_Tx_endNumber_38 (lv_at hl 5 rfl) ?_
    refine lv_iconst (v := (1:Int32)) hx hb d_Tx_endNumber_40 (by decide) ?_
    refine lv_isub hx hb d_Tx_endNumber_41 ?_
    obtain ⟨g5, h⟩ := o_gd_some h
    refine o_iald (f := (Tx_cells u27_a0)) C hP 22 19 cw_22 rfl g5 d_Tx_endNumber_42 ?_
    refine lv_if_ne (tgt := 52) hx hb d_Tx_endNumber_43 (by decide) (fun c6 => ?_) (fun c6 => ?_)
    · replace h := o_ff c6 h
      cases h
      exact h1 (Nat.succ_ne_zero 0) _ _ _ hP hS (lv_sub hl [0, 1, 2, 3, 4, 5] rfl)
    · replace h := o_tt c6 h
      obtain ⟨x5_46, ex5_46⟩ : ∃ y : Int32, y = z + (-1:Int32) := ⟨_, rfl⟩
      replace h := o_nm_at ex5_46 h
      refine lv_iinc (v := x5_46) (lv' := [(5, .int x5_46), (0, .ref (ad 12)), (1, .int u27_x1), (2, .int u27_x2), (3, .int u27_x3), (4, .int u27_x4)]) hx hb d_Tx_endNumber_46 hl (k := 5) rfl (by rw [ex5_46]; rfl) (by decide) rfl (fun ls hl => ?_)
      refine lv_goto (tgt := 27) hx hb d_Tx_endNumber_49 (by decide) ?_
      cases h
      exact h0 rfl _ _ _ hP hS (lv_sub hl [1, 2, 3, 4, 5, 0] rfl)
set_option maxHeartbeats 4000000 in
set_option maxRecDepth 100000 in
theorem w_Tx_endNumber_b52_1 {E : (Nat → Prop) → State → Heap → Prop} {p : Program} {l : Launch} {e : Env} {s : State} {m : MethodId} {args : Array Value} {below : List Frame} {meth : Method} {c : Code} {D : va_G} {ad : Nat → Nat} {ca : Nat → ClassId} {A : Nat → Prop} {Q : State → Prop} (hE : o_Ek E) (C : o_Cx E p s m args meth c D o_cls (o_tys ca) "SchemaJudge$Text" b_Tx_endNumber none 6 cc_Tx_endNumber A) (hDD : ∀ (rt : Nat) (Sj : SSJ) (T0 : STx) (T1 : STx) (Rd : SRd) (Pg : SPg) (Pt : SPt) (Mk : SMk) (Lk : SLk) (Ck : SCk) (Jd : SJd) (Ld : SLd) (Pr : SPr), va_D A (o_cw ad ca rt Sj T0 T1 Rd Pg Pt Mk Lk Ck Jd Ld Pr)) (n : Nat) (u52_x1 : Int32) (u52_x2 : Int32) (u52_x3 : Int32) (u52_x5 : Int32) (u52_a0 : STx) (u52_Sj : SSJ) (u52_T0 : STx) (u52_Rd : SRd) (u52_Pg : SPg) (u52_Pt : SPt) (u52_Mk : SMk) (u52_Lk : SLk) (u52_Ck : SCk) (u52_Jd : SJd) (u52_Ld : SLd) (u52_Pr : SPr) (u52_rt : Nat) (z : Int32) (q : Nat × Int32) (h : m_Tx_endNumber_b52 n u52_x1 u52_x2 u52_x3 u52_x5 u52_a0 z = some q) (h0 : q.1 = 0 → o_At p l e rm_Tx_endNumber s m args below meth c Q o_cls D A 6 52 [] (o_cw ad ca u52_rt u52_Sj u52_T0 u52_a0 u52_Rd u52_Pg u52_Pt u52_Mk u52_Lk u52_Ck u52_Jd u52_Ld u52_Pr) [(0, .ref (ad 12)), (1, .int u52_x1), (2, .int u52_x2), (3, .int u52_x3), (4, .int q.2), (5, .int u52_x5)]) (h1 : q.1 ≠ 0 → (o_At p l e rm_Tx_endNumber s m args below meth c Q o_cls D A 6 75 [] (o_cw ad ca u52_rt u52_Sj u52_T0 u52_a0 u52_Rd u52_Pg u52_Pt u52_Mk u52_Lk u52_Ck u52_Jd u52_Ld u52_Pr) [(0, .ref (ad 12)), (1, .int u52_x1), (2, .int u52_x2), (3, .int u52_x3), (4, .int q.2), (5, .int u52_x5)])) : o_At p l e rm_Tx_endNumber s m args below meth c Q o_cls D A 6 52 [] (o_cw ad ca u52_rt u52_Sj u52_T0 u52_a0 u52_Rd u52_Pg u52_Pt u52_Mk u52_Lk u52_Ck u52_Jd u52_Ld u52_Pr) [(0, .ref (ad 12)), (1, .int u52_x1), (2, .int u52_x2), (3, .int u52_x3), (4, .int z), (5, .int u52_x5)] := by
  unfold m_Tx_endNumber_b52 at h
  intro H locs ls hP hS hl
  have C0 := C
  obtain ⟨hx, hb, -, -, -, hown, hts, hK, -, -⟩ := C0
  refine lv_iload hx hb d_Tx_endNumber_52 (lv_at hl 4 rfl) ?_
  refine lv_iload hx hb d_Tx_endNumber_54 (lv_at hl 5 rfl) ?_
  refine lv_icmp_ge (tgt := 75) hx hb d_Tx_endNumber_56 (by decide) (fun c7 => ?_) (fun c7 => ?_)
  · replace h := o_tt c7 h
    cases h
    exact h1 (Nat.succ_ne_zero 0) _ _ _ hP hS (lv_sub hl [0, 1, 2, 3, 4, 5] rfl)
  · replace h := o_ff c7 h
    refine lv_aload_n hx hb d_Tx_endNumber_59 rfl (lv_at hl 0 rfl) ?_
    refine o_get (v := .ref (ad 22)) C in_Tx hP 12 cw_12 rfl 9 (by decide) k_1_55 rfl rfl d_Tx_endNumber_60 ?_
    refine lv_iload hx hb d_Tx_endNumber_63 (lv_at hl 4 rfl) ?_
    obtain ⟨g8, h⟩ := o_gd_some h
    refine o_iald (f := (Tx_cells u52_a0)) C hP 22 19 cw_22 rfl g8 d_Tx_endNumber_65 ?_
    refine lv_if_ne (tgt := 75) hx hb d_Tx_endNumber_66 (by decide) (fun c9 => ?_) (fun c9 => ?_)
    · replace h := o_ff c9 h
      cases h
      exact h1 (Nat.succ_ne_zero 0) _ _ _ hP hS (lv_sub hl [0, 1, 2, 3, 4, 5] rfl)
    · replace h := o_tt c9 h
      obtain ⟨x4_69, ex4_69⟩ : ∃ y : Int32, y = z + (1:Int32) := ⟨_, rfl⟩
      replace h := o_nm_at ex4_69 h
      refine lv_iinc (v := x4_69) (lv' := [(4, .int x4_69), (0, .ref (ad 12)), (1, .int u52_x1), (2, .int u52_x2), (3, .int u52_x3), (5, .int u52_x5)]) hx hb d_Tx_endNumber_69 hl (k := 4) rfl (by rw [ex4_69]; rfl) (by decide) rfl (fun ls hl => ?_)
      refine lv_goto (tgt := 52) hx hb d_Tx_endNumber_72 (by decide) ?_
      cases h
      exact h0 rfl _ _ _ hP hS (lv_sub hl [1, 2, 3, 4, 0, 5] rfl)
set_option maxHeartbeats 4000000 in
set_option maxRecDepth 100000 in
theorem w_Tx_endNumber_j119_1 {E : (Nat → Prop) → State → Heap → Prop} {p : Program} {l : Launch} {e : Env} {s : State} {m : MethodId} {args : Array Value} {below : List Frame} {meth : Method} {c : Code} {D : va_G} {ad : Nat → Nat} {ca : Nat → ClassId} {A : Nat → Prop} (hE : o_Ek E) (C : o_Cx E p s m args meth c D o_cls (o_tys ca) "SchemaJudge$Text" b_Tx_endNumber none 6 cc_Tx_endNumber A) (hDD : ∀ (rt : Nat) (Sj : SSJ) (T0 : STx) (T1 : STx) (Rd : SRd) (Pg : SPg) (Pt : SPt) (Mk : SMk) (Lk : SLk) (Ck : SCk) (Jd : SJd) (Ld : SLd) (Pr : SPr), va_D A (o_cw ad ca rt Sj T0 T1 Rd Pg Pt Mk Lk Ck Jd Ld Pr)) (n : Nat) (x1 : Int32) (x2 : Int32) (x4 : Int32) (x5 : Int32) (y1 : Int32) (y2 : Int32) (a0 : STx) (Sj : SSJ) (T0 : STx) (Rd : SRd) (Pg : SPg) (Pt : SPt) (Mk : SMk) (Lk : SLk) (Ck : SCk) (Jd : SJd) (Ld : SLd) (Pr : SPr) (rt : Nat) {r : STx} (h : m_Tx_endNumber_j119 n x1 x2 x4 x5 y1 y2 a0 = some r) : o_At p l e rm_Tx_endNumber s m args below meth c (MQ below (o_Qx D o_cls none (o_cw ad ca rt Sj T0 r Rd Pg Pt Mk Lk Ck Jd Ld Pr) A) args s 0 0 A) o_cls D A 6 119 [.int y2, .int y1, .ref (ad 17)] (o_cw ad ca rt Sj T0 a0 Rd Pg Pt Mk Lk Ck Jd Ld Pr) [(0, .ref (ad 12)), (1, .int x1), (2, .int x2), (4, .int x4), (5, .int x5)] := by
  unfold m_Tx_endNumber_j119 at h
  intro H locs ls hP hS hl
  have C0 := C
  obtain ⟨hx, hb, -, -, -, hown, hts, hK, -, -⟩ := C0
  obtain ⟨g13, h⟩ := o_gd_some h
  refine o_iast (f := (Tx_exponents a0)) (w1 := (o_cw ad ca rt Sj T0 (Tx_mk (Tx_kinds a0) (Tx_places a0) (Tx_sizes a0) (Tx_parents a0) (upd (Tx_exponents a0) y1.toNatClampNeg y2) (Tx_starts a0) (Tx_afters a0) (Tx_slots a0) (Tx_negatives a0) (Tx_cells a0) (Tx_total a0) (Tx_used a0) (Tx_characters a0)) Rd Pg Pt Mk Lk Ck Jd Ld Pr)) C hP (hDD _ _ _ _ _ _ _ _ _ _ _ _ _) hS 17 14 cw_17 rfl g13 rfl d_Tx_endNumber_119 (fun H locs hP hS => ?_)
  refine lv_aload_n hx hb d_Tx_endNumber_120 rfl (lv_at hl 0 rfl) ?_
  refine o_get (v := .ref (ad 21)) C in_Tx hP 12 cw_12 rfl 8 (by decide) k_1_54 rfl rfl d_Tx_endNumber_121 ?_
  refine lv_iload_n hx hb d_Tx_endNumber_124 rfl (lv_at hl 1 rfl) ?_
  refine lv_iload_n hx hb d_Tx_endNumber_125 rfl (lv_at hl 2 rfl) ?_
  refine lv_if_eq (tgt := 140) hx hb d_Tx_endNumber_126 (by decide) (fun c14 => ?_) (fun c14 => ?_)
  · replace h := o_tt c14 h
    refine lv_iconst (v := (0:Int32)) hx hb d_Tx_endNumber_140 (by decide) ?_
    obtain ⟨g15, h⟩ := o_gd_some h
    refine o_zast (f := (Tx_negatives a0)) (w1 := (o_cw ad ca rt Sj T0 (Tx_mk (Tx_kinds a0) (Tx_places a0) (Tx_sizes a0) (Tx_parents a0) (upd (Tx_exponents a0) y1.toNatClampNeg y2) (Tx_starts a0) (Tx_afters a0) (Tx_slots a0) (upd (Tx_negatives a0) x1.toNatClampNeg (vp_nar .boolean (0:Int32))) (Tx_cells a0) (Tx_total a0) (Tx_used a0) (Tx_characters a0)) Rd Pg Pt Mk Lk Ck Jd Ld Pr)) C hP (hDD _ _ _ _ _ _ _ _ _ _ _ _ _) hS 21 18 cw_21 rfl g15 rfl d_Tx_endNumber_141 (fun H locs hP hS => ?_)
    cases h
    exact o_rv C hP hS d_Tx_endNumber_142
  · replace h := o_ff c14 h
    refine lv_iload hx hb d_Tx_endNumber_129 (lv_at hl 4 rfl) ?_
    refine lv_iload hx hb d_Tx_endNumber_131 (lv_at hl 3 rfl) ?_
    refine lv_icmp_le (tgt := 140) hx hb d_Tx_endNumber_133 (by decide) (fun c16 => ?_) (fun c16 => ?_)
    · replace h := o_tt c16 h
      refine lv_iconst (v := (0:Int32)) hx hb d_Tx_endNumber_140 (by decide) ?_
      obtain ⟨g17, h⟩ := o_gd_some h
      refine o_zast (f := (Tx_negatives a0)) (w1 := (o_cw ad ca rt Sj T0 (Tx_mk (Tx_kinds a0) (Tx_places a0) (Tx_sizes a0) (Tx_parents a0) (upd (Tx_exponents a0) y1.toNatClampNeg y2) (Tx_starts a0) (Tx_afters a0) (Tx_slots a0) (upd (Tx_negatives a0) x1.toNatClampNeg (vp_nar .boolean (0:Int32))) (Tx_cells a0) (Tx_total a0) (Tx_used a0) (Tx_characters a0)) Rd Pg Pt Mk Lk Ck Jd Ld Pr)) C hP (hDD _ _ _ _ _ _ _ _ _ _ _ _ _) hS 21 18 cw_21 rfl g17 rfl d_Tx_endNumber_141 (fun H locs hP hS => ?_)
      cases h
      exact o_rv C hP hS d_Tx_endNumber_142
    · replace h := o_ff c16 h
      refine lv_iconst (v := (1:Int32)) hx hb d_Tx_endNumber_136 (by decide) ?_
      refine lv_goto (tgt := 141) hx hb d_Tx_endNumber_137 (by decide) ?_
      obtain ⟨g18, h⟩ := o_gd_some h
      refine o_zast (f := (Tx_negatives a0)) (w1 := (o_cw ad ca rt Sj T0 (Tx_mk (Tx_kinds a0) (Tx_places a0) (Tx_sizes a0) (Tx_parents a0) (upd (Tx_exponents a0) y1.toNatClampNeg y2) (Tx_starts a0) (Tx_afters a0) (Tx_slots a0) (upd (Tx_negatives a0) x1.toNatClampNeg (vp_nar .boolean (1:Int32))) (Tx_cells a0) (Tx_total a0) (Tx_used a0) (Tx_characters a0)) Rd Pg Pt Mk Lk Ck Jd Ld Pr)) C hP (hDD _ _ _ _ _ _ _ _ _ _ _ _ _) hS 21 18 cw_21 rfl g18 rfl d_Tx_endNumber_141 (fun H locs hP hS => ?_)
      cases h
      exact o_rv C hP hS d_Tx_endNumber_142
set_option maxHeartbeats 4000000 in
set_option maxRecDepth 100000 in
theorem w_Tx_endNumber_j75_1 {E : (Nat → Prop) → State → Heap → Prop} {p : Program} {l : Launch} {e : Env} {s : State} {m : MethodId} {args : Array Value} {below : List Frame} {meth : Method} {c : Code} {D : va_G} {ad : Nat → Nat} {ca : Nat → ClassId} {A : Nat → Prop} (hE : o_Ek E) (C : o_Cx E p s m args meth c D o_cls (o_tys ca) "SchemaJudge$Text" b_Tx_endNumber none 6 cc_Tx_endNumber A) (hDD : ∀ (rt : Nat) (Sj : SSJ) (T0 : STx) (T1 : STx) (Rd : SRd) (Pg : SPg) (Pt : SPt) (Mk : SMk) (Lk : SLk) (Ck : SCk) (Jd : SJd) (Ld : SLd) (Pr : SPr), va_D A (o_cw ad ca rt Sj T0 T1 Rd Pg Pt Mk Lk Ck Jd Ld Pr)) (n : Nat) (x1 : Int32) (x2 : Int32) (x3 : Int32) (x4 : Int32) (x5 : Int32) (a0 : STx) (Sj : SSJ) (T0 : STx) (Rd : SRd) (Pg : SPg) (Pt : SPt) (Mk : SMk) (Lk : SLk) (Ck : SCk) (Jd : SJd) (Ld : SLd) (Pr : SPr) (rt : Nat) {r : STx} (h : m_Tx_endNumber_j75 n x1 x2 x3 x4 x5 a0 = some r) : o_At p l e rm_Tx_endNumber s m args below meth c (MQ below (o_Qx D o_cls none (o_cw ad ca rt Sj T0 r Rd Pg Pt Mk Lk Ck Jd Ld Pr) A) args s 0 0 A) o_cls D A 6 75 [] (o_cw ad ca rt Sj T0 a0 Rd Pg Pt Mk Lk Ck Jd Ld Pr) [(0, .ref (ad 12)), (1, .int x1), (2, .int x2), (3, .int x3), (4, .int x4), (5, .int x5)] := by
  unfold m_Tx_endNumber_j75 at h
  intro H locs ls hP hS hl
  have C0 := C
  obtain ⟨hx, hb, -, -, -, hown, hts, hK, -, -⟩ := C0
  refine lv_aload_n hx hb d_Tx_endNumber_75 rfl (lv_at hl 0 rfl) ?_
  refine o_get (v := .ref (ad 18)) C in_Tx hP 12 cw_12 rfl 5 (by decide) k_1_51 rfl rfl d_Tx_endNumber_76 ?_
  refine lv_iload_n hx hb d_Tx_endNumber_79 rfl (lv_at hl 1 rfl) ?_
  refine lv_iload hx hb d_Tx_endNumber_80 (lv_at hl 4 rfl) ?_
  obtain ⟨g10, h⟩ := o_gd_some h
  refine o_iast (f := (Tx_starts a0)) (w1 := (o_cw ad ca rt Sj T0 (Tx_mk (Tx_kinds a0) (Tx_places a0) (Tx_sizes a0) (Tx_parents a0) (Tx_exponents a0) (upd (Tx_starts a0) x1.toNatClampNeg x4) (Tx_afters a0) (Tx_slots a0) (Tx_negatives a0) (Tx_cells a0) (Tx_total a0) (Tx_used a0) (Tx_characters a0)) Rd Pg Pt Mk Lk Ck Jd Ld Pr)) C hP (hDD _ _ _ _ _ _ _ _ _ _ _ _ _) hS 18 15 cw_18 rfl g10 rfl d_Tx_endNumber_82 (fun H locs hP hS => ?_)
  refine lv_aload_n hx hb d_Tx_endNumber_83 rfl (lv_at hl 0 rfl) ?_
  refine o_get (v := .ref (ad 15)) C in_Tx hP 12 cw_12 rfl 2 (by decide) k_1_48 rfl rfl d_Tx_endNumber_84 ?_
  refine lv_iload_n hx hb d_Tx_endNumber_87 rfl (lv_at hl 1 rfl) ?_
  refine lv_iload hx hb d_Tx_endNumber_88 (lv_at hl 5 rfl) ?_
  refine lv_iload hx hb d_Tx_endNumber_90 (lv_at hl 4 rfl) ?_
  refine lv_isub hx hb d_Tx_endNumber_92 ?_
  obtain ⟨g11, h⟩ := o_gd_some h
  refine o_iast (f := (Tx_sizes a0)) (w1 := (o_cw ad ca rt Sj T0 (Tx_mk (Tx_kinds a0) (Tx_places a0) (upd (Tx_sizes a0) x1.toNatClampNeg (x5 - x4)) (Tx_parents a0) (Tx_exponents a0) (upd (Tx_starts a0) x1.toNatClampNeg x4) (Tx_afters a0) (Tx_slots a0) (Tx_negatives a0) (Tx_cells a0) (Tx_total a0) (Tx_used a0) (Tx_characters a0)) Rd Pg Pt Mk Lk Ck Jd Ld Pr)) C hP (hDD _ _ _ _ _ _ _ _ _ _ _ _ _) hS 15 12 cw_15 rfl g11 rfl d_Tx_endNumber_93 (fun H locs hP hS => ?_)
  refine lv_aload_n hx hb d_Tx_endNumber_94 rfl (lv_at hl 0 rfl) ?_
  refine o_get (v := .ref (ad 17)) C in_Tx hP 12 cw_12 rfl 4 (by decide) k_1_50 rfl rfl d_Tx_endNumber_95 ?_
  refine lv_iload_n hx hb d_Tx_endNumber_98 rfl (lv_at hl 1 rfl) ?_
  refine lv_iload hx hb d_Tx_endNumber_99 (lv_at hl 5 rfl) ?_
  refine lv_iload hx hb d_Tx_endNumber_101 (lv_at hl 4 rfl) ?_
  refine lv_icmp_ne (tgt := 110) hx hb d_Tx_endNumber_103 (by decide) (fun c12 => ?_) (fun c12 => ?_)
  · replace h := o_ff c12 h
    refine lv_iload_n hx hb d_Tx_endNumber_110 rfl (lv_at hl 3 rfl) ?_
    refine lv_aload_n hx hb d_Tx_endNumber_111 rfl (lv_at hl 0 rfl) ?_
    refine o_get (v := .int (Tx_used a0)) C in_Tx hP 12 cw_12 rfl 11 (by decide) k_1_57 rfl rfl d_Tx_endNumber_112 ?_
    refine lv_iadd hx hb d_Tx_endNumber_115 ?_
    refine lv_iload hx hb d_Tx_endNumber_116 (lv_at hl 5 rfl) ?_
    refine lv_isub hx hb d_Tx_endNumber_118 ?_
    exact w_Tx_endNumber_j119_1 hE C hDD n x1 x2 x4 x5 x1 ((x3 + (Tx_used a0)) - x5) (Tx_mk (Tx_kinds a0) (Tx_places a0) (upd (Tx_sizes a0) x1.toNatClampNeg (x5 - x4)) (Tx_parents a0) (Tx_exponents a0) (upd (Tx_starts a0) x1.toNatClampNeg x4) (Tx_afters a0) (Tx_slots a0) (Tx_negatives a0) (Tx_cells a0) (Tx_total a0) (Tx_used a0) (Tx_characters a0)) Sj T0 Rd Pg Pt Mk Lk Ck Jd Ld Pr rt h _ _ _ hP hS (lv_sub hl [0, 1, 2, 4, 5] rfl)
  · replace h := o_tt c12 h
    refine lv_iconst (v := (0:Int32)) hx hb d_Tx_endNumber_106 (by decide) ?_
    refine lv_goto (tgt := 119) hx hb d_Tx_endNumber_107 (by decide) ?_
    exact w_Tx_endNumber_j119_1 hE C hDD n x1 x2 x4 x5 x1 (0:Int32) (Tx_mk (Tx_kinds a0) (Tx_places a0) (upd (Tx_sizes a0) x1.toNatClampNeg (x5 - x4)) (Tx_parents a0) (Tx_exponents a0) (upd (Tx_starts a0) x1.toNatClampNeg x4) (Tx_afters a0) (Tx_slots a0) (Tx_negatives a0) (Tx_cells a0) (Tx_total a0) (Tx_used a0) (Tx_characters a0)) Sj T0 Rd Pg Pt Mk Lk Ck Jd Ld Pr rt h _ _ _ hP hS (lv_sub hl [0, 1, 2, 4, 5] rfl)
set_option maxHeartbeats 4000000 in
set_option maxRecDepth 100000 in
theorem c_Tx_endNumber_1 {E : (Nat → Prop) → State → Heap → Prop} {D : va_G} {ad : Nat → Nat} {ca : Nat → ClassId} (hE : o_Ek E) (l : Launch) (n : Nat) (x1 : Int32) (x2 : Int32) (x3 : Int32) (a0 : STx) (Sj : SSJ) (T0 : STx) (Rd : SRd) (Pg : SPg) (Pt : SPt) (Mk : SMk) (Lk : SLk) (Ck : SCk) (Jd : SJd) (Ld : SLd) (Pr : SPr) (rt : Nat) {r : STx} (h : m_Tx_endNumber n x1 x2 x3 a0 = some r) : o_Cn E l D o_cls (o_tys ca) y_Tx_endNumber cc_Tx_endNumber rm_Tx_endNumber [.ref (ad 12), .int x1, .int x2, .int x3] (o_cw ad ca rt Sj T0 a0 Rd Pg Pt Mk Lk Ck Jd Ld Pr) (o_cw ad ca rt Sj T0 r Rd Pg Pt Mk Lk Ck Jd Ld Pr) none := by
  refine o_Cn_of (by decide) (Nat.le_of_ble_eq_true rfl) ?_
  intro p e s m below meth c A ls C hD hP hS hl
  have hDD : ∀ (rt : Nat) (Sj : SSJ) (T0 : STx) (T1 : STx) (Rd : SRd) (Pg : SPg) (Pt : SPt) (Mk : SMk) (Lk : SLk) (Ck : SCk) (Jd : SJd) (Ld : SLd) (Pr : SPr), va_D A (o_cw ad ca rt Sj T0 T1 Rd Pg Pt Mk Lk Ck Jd Ld Pr) := fun _ _ _ _ _ _ _ _ _ _ _ _ _ => o_D_map hD rfl
  have hl : lv_has ls 6 [(0, .ref (ad 12)), (1, .int x1), (2, .int x2), (3, .int x3)] := hl
  unfold m_Tx_endNumber at h
  have C0 := C
  obtain ⟨hx, hb, -, -, -, hown, hts, hK, -, -⟩ := C0
  refine lv_iload_n hx hb d_Tx_endNumber_0 rfl (lv_at hl 1 rfl) ?_
  refine lv_if_lt (tgt := 12) hx hb d_Tx_endNumber_1 (by decide) (fun c1 => ?_) (fun c1 => ?_)
  · replace h := o_tt c1 h
    cases h
    exact o_rv C hP hS d_Tx_endNumber_12
  · replace h := o_ff c1 h
    refine lv_iload_n hx hb d_Tx_endNumber_4 rfl (lv_at hl 1 rfl) ?_
    refine lv_aload_n hx hb d_Tx_endNumber_5 rfl (lv_at hl 0 rfl) ?_
    refine o_get (v := .int (Tx_total a0)) C in_Tx hP 12 cw_12 rfl 10 (by decide) k_1_56 rfl rfl d_Tx_endNumber_6 ?_
    refine lv_icmp_lt (tgt := 13) hx hb d_Tx_endNumber_9 (by decide) (fun c2 => ?_) (fun c2 => ?_)
    · replace h := o_tt c2 h
      refine lv_aload_n hx hb d_Tx_endNumber_13 rfl (lv_at hl 0 rfl) ?_
      refine o_get (v := .ref (ad 18)) C in_Tx hP 12 cw_12 rfl 5 (by decide) k_1_51 rfl rfl d_Tx_endNumber_14 ?_
      refine lv_iload_n hx hb d_Tx_endNumber_17 rfl (lv_at hl 1 rfl) ?_
      obtain ⟨g3, h⟩ := o_gd_some h
      refine o_iald (f := (Tx_starts a0)) C hP 18 15 cw_18 rfl g3 d_Tx_endNumber_18 ?_
      refine lv_topi (fun x4_19 ex4_19 => ?_)
      replace h := o_nm_at ex4_19 h
      refine lv_istore (lv' := [(4, .int x4_19), (0, .ref (ad 12)), (1, .int x1), (2, .int x2), (3, .int x3)]) hx hb d_Tx_endNumber_19 hl (by decide) rfl (fun ls hl => ?_)
      refine lv_aload_n hx hb d_Tx_endNumber_21 rfl (lv_at hl 1 rfl) ?_
      refine o_get (v := .int (Tx_used a0)) C in_Tx hP 12 cw_12 rfl 11 (by decide) k_1_57 rfl rfl d_Tx_endNumber_22 ?_
      refine lv_topi (fun x5_25 ex5_25 => ?_)
      replace h := o_nm_at ex5_25 h
      refine lv_istore (lv' := [(5, .int x5_25), (4, .int x4_19), (0, .ref (ad 12)), (1, .int x1), (2, .int x2), (3, .int x3)]) hx hb d_Tx_endNumber_25 hl (by decide) rfl (fun ls hl => ?_)
      obtain ⟨q1, hq1, h⟩ := o_bd_some h
      refine o_sim2 (AH := fun z => o_At p l e rm_Tx_endNumber s m _ below meth c _ o_cls D A 6 27 [] (o_cw ad ca rt Sj T0 a0 Rd Pg Pt Mk Lk Ck Jd Ld Pr) [(0, .ref (ad 12)), (1, .int x1), (2, .int x2), (3, .int x3), (4, .int x4_19), (5, .int z)]) (AX := fun q => o_At p l e rm_Tx_endNumber s m _ below meth c _ o_cls D A 6 52 [] (o_cw ad ca rt Sj T0 a0 Rd Pg Pt Mk Lk Ck Jd Ld Pr) [(0, .ref (ad 12)), (1, .int x1), (2, .int x2), (3, .int x3), (4, .int x4_19), (5, .int q.2)]) (fun z q h h0 h1 => w_Tx_endNumber_b27_1 hE C hDD n x1 x2 x3 x4_19 a0 Sj T0 Rd Pg Pt Mk Lk Ck Jd Ld Pr rt z q h h0 h1) n _ q1 hq1 ?_ _ _ _ hP hS (lv_sub hl [2, 3, 4, 5, 1, 0] rfl)
      intro H locs ls hP hS hl
      obtain ⟨q2, hq2, h⟩ := o_bd_some h
      refine o_sim2 (AH := fun z => o_At p l e rm_Tx_endNumber s m _ below meth c _ o_cls D A 6 52 [] (o_cw ad ca rt Sj T0 a0 Rd Pg Pt Mk Lk Ck Jd Ld Pr) [(0, .ref (ad 12)), (1, .int x1), (2, .int x2), (3, .int x3), (4, .int z), (5, .int q1.2)]) (AX := fun q => o_At p l e rm_Tx_endNumber s m _ below meth c _ o_cls D A 6 75 [] (o_cw ad ca rt Sj T0 a0 Rd Pg Pt Mk Lk Ck Jd Ld Pr) [(0, .ref (ad 12)), (1, .int x1), (2, .int x2), (3, .int x3), (4, .int q.2), (5, .int q1.2)]) (fun z q h h0 h1 => w_Tx_endNumber_b52_1 hE C hDD n x1 x2 x3 q1.2 a0 Sj T0 Rd Pg Pt Mk Lk Ck Jd Ld Pr rt z q h h0 h1) n _ q2 hq2 ?_ _ _ _ hP hS (lv_sub hl [0, 1, 2, 3, 4, 5] rfl)
      intro H locs ls hP hS hl
      exact w_Tx_endNumber_j75_1 hE C hDD n x1 x2 x3 q2.2 q1.2 a0 Sj T0 Rd Pg Pt Mk Lk Ck Jd Ld Pr rt h _ _ _ hP hS (lv_sub hl [0, 1, 2, 3, 4, 5] rfl)
    · replace h := o_ff c2 h
      cases h
      exact o_rv C hP hS d_Tx_endNumber_12
set_option maxHeartbeats 4000000 in
set_option maxRecDepth 100000 in
theorem c_Tx_endString_0 {E : (Nat → Prop) → State → Heap → Prop} {D : va_G} {ad : Nat → Nat} {ca : Nat → ClassId} (hE : o_Ek E) (l : Launch) (x1 : Int32) (a0 : STx) (Sj : SSJ) (T1 : STx) (Rd : SRd) (Pg : SPg) (Pt : SPt) (Mk : SMk) (Lk : SLk) (Ck : SCk) (Jd : SJd) (Ld : SLd) (Pr : SPr) (rt : Nat) {r : STx} (h : m_Tx_endString x1 a0 = some r) : o_Cn E l D o_cls (o_tys ca) y_Tx_endString cc_Tx_endString rm_Tx_endString [.ref (ad 1), .int x1] (o_cw ad ca rt Sj a0 T1 Rd Pg Pt Mk Lk Ck Jd Ld Pr) (o_cw ad ca rt Sj r T1 Rd Pg Pt Mk Lk Ck Jd Ld Pr) none := by
  refine o_Cn_of (by decide) (Nat.le_of_ble_eq_true rfl) ?_
  intro p e s m below meth c A ls C hD hP hS hl
  have hDD : ∀ (rt : Nat) (Sj : SSJ) (T0 : STx) (T1 : STx) (Rd : SRd) (Pg : SPg) (Pt : SPt) (Mk : SMk) (Lk : SLk) (Ck : SCk) (Jd : SJd) (Ld : SLd) (Pr : SPr), va_D A (o_cw ad ca rt Sj T0 T1 Rd Pg Pt Mk Lk Ck Jd Ld Pr) := fun _ _ _ _ _ _ _ _ _ _ _ _ _ => o_D_map hD rfl
  have hl : lv_has ls 2 [(0, .ref (ad 1)), (1, .int x1)] := hl
  unfold m_Tx_endString at h
  have C0 := C
  obtain ⟨hx, hb, -, -, -, hown, hts, hK, -, -⟩ := C0
  refine lv_iload_n hx hb d_Tx_endString_0 rfl (lv_at hl 1 rfl) ?_
  refine lv_if_lt (tgt := 29) hx hb d_Tx_endString_1 (by decide) (fun c1 => ?_) (fun c1 => ?_)
  · replace h := o_tt c1 h
    cases h
    exact o_rv C hP hS d_Tx_endString_29
  · replace h := o_ff c1 h
    refine lv_iload_n hx hb d_Tx_endString_4 rfl (lv_at hl 1 rfl) ?_
    refine lv_aload_n hx hb d_Tx_endString_5 rfl (lv_at hl 0 rfl) ?_
    refine o_get (v := .int (Tx_total a0)) C in_Tx hP 1 cw_1 rfl 10 (by decide) k_1_56 rfl rfl d_Tx_endString_6 ?_
    refine lv_icmp_ge (tgt := 29) hx hb d_Tx_endString_9 (by decide) (fun c2 => ?_) (fun c2 => ?_)
    · replace h := o_tt c2 h
      cases h
      exact o_rv C hP hS d_Tx_endString_29
    · replace h := o_ff c2 h
      refine lv_aload_n hx hb d_Tx_endString_12 rfl (lv_at hl 0 rfl) ?_
      refine o_get (v := .ref (ad 4)) C in_Tx hP 1 cw_1 rfl 2 (by decide) k_1_48 rfl rfl d_Tx_endString_13 ?_
      refine lv_iload_n hx hb d_Tx_endString_16 rfl (lv_at hl 1 rfl) ?_
      refine lv_aload_n hx hb d_Tx_endString_17 rfl (lv_at hl 0 rfl) ?_
      refine o_get (v := .int (Tx_used a0)) C in_Tx hP 1 cw_1 rfl 11 (by decide) k_1_57 rfl rfl d_Tx_endString_18 ?_
      refine lv_aload_n hx hb d_Tx_endString_21 rfl (lv_at hl 0 rfl) ?_
      refine o_get (v := .ref (ad 7)) C in_Tx hP 1 cw_1 rfl 5 (by decide) k_1_51 rfl rfl d_Tx_endString_22 ?_
      refine lv_iload_n hx hb d_Tx_endString_25 rfl (lv_at hl 1 rfl) ?_
      obtain ⟨g3, h⟩ := o_gd_some h
      refine o_iald (f := (Tx_starts a0)) C hP 7 5 cw_7 rfl g3 d_Tx_endString_26 ?_
      refine lv_isub hx hb d_Tx_endString_27 ?_
      obtain ⟨g4, h⟩ := o_gd_some h
      refine o_iast (f := (Tx_sizes a0)) (w1 := (o_cw ad ca rt Sj (Tx_mk (Tx_kinds a0) (Tx_places a0) (upd (Tx_sizes a0) x1.toNatClampNeg ((Tx_used a0) - ((Tx_starts a0) x1.toNatClampNeg))) (Tx_parents a0) (Tx_exponents a0) (Tx_starts a0) (Tx_afters a0) (Tx_slots a0) (Tx_negatives a0) (Tx_cells a0) (Tx_total a0) (Tx_used a0) (Tx_characters a0)) T1 Rd Pg Pt Mk Lk Ck Jd Ld Pr)) C hP (hDD _ _ _ _ _ _ _ _ _ _ _ _ _) hS 4 2 cw_4 rfl g4 rfl d_Tx_endString_28 (fun H locs hP hS => ?_)
      cases h
      exact o_rv C hP hS d_Tx_endString_29
set_option maxHeartbeats 4000000 in
set_option maxRecDepth 100000 in
theorem c_Tx_endString_1 {E : (Nat → Prop) → State → Heap → Prop} {D : va_G} {ad : Nat → Nat} {ca : Nat → ClassId} (hE : o_Ek E) (l : Launch) (x1 : Int32) (a0 : STx) (Sj : SSJ) (T0 : STx) (Rd : SRd) (Pg : SPg) (Pt : SPt) (Mk : SMk) (Lk : SLk) (Ck : SCk) (Jd : SJd) (Ld : SLd) (Pr : SPr) (rt : Nat) {r : STx} (h : m_Tx_endString x1 a0 = some r) : o_Cn E l D o_cls (o_tys ca) y_Tx_endString cc_Tx_endString rm_Tx_endString [.ref (ad 12), .int x1] (o_cw ad ca rt Sj T0 a0 Rd Pg Pt Mk Lk Ck Jd Ld Pr) (o_cw ad ca rt Sj T0 r Rd Pg Pt Mk Lk Ck Jd Ld Pr) none := by
  refine o_Cn_of (by decide) (Nat.le_of_ble_eq_true rfl) ?_
  intro p e s m below meth c A ls C hD hP hS hl
  have hDD : ∀ (rt : Nat) (Sj : SSJ) (T0 : STx) (T1 : STx) (Rd : SRd) (Pg : SPg) (Pt : SPt) (Mk : SMk) (Lk : SLk) (Ck : SCk) (Jd : SJd) (Ld : SLd) (Pr : SPr), va_D A (o_cw ad ca rt Sj T0 T1 Rd Pg Pt Mk Lk Ck Jd Ld Pr) := fun _ _ _ _ _ _ _ _ _ _ _ _ _ => o_D_map hD rfl
  have hl : lv_has ls 2 [(0, .ref (ad 12)), (1, .int x1)] := hl
  unfold m_Tx_endString at h
  have C0 := C
  obtain ⟨hx, hb, -, -, -, hown, hts, hK, -, -⟩ := C0
  refine lv_iload_n hx hb d_Tx_endString_0 rfl (lv_at hl 1 rfl) ?_
  refine lv_if_lt (tgt := 29) hx hb d_Tx_endString_1 (by decide) (fun c1 => ?_) (fun c1 => ?_)
  · replace h := o_tt c1 h
    cases h
    exact o_rv C hP hS d_Tx_endString_29
  · replace h := o_ff c1 h
    refine lv_iload_n hx hb d_Tx_endString_4 rfl (lv_at hl 1 rfl) ?_
    refine lv_aload_n hx hb d_Tx_endString_5 rfl (lv_at hl 0 rfl) ?_
    refine o_get (v := .int (Tx_total a0)) C in_Tx hP 12 cw_12 rfl 10 (by decide) k_1_56 rfl rfl d_Tx_endString_6 ?_
    refine lv_icmp_ge (tgt := 29) hx hb d_Tx_endString_9 (by decide) (fun c2 => ?_) (fun c2 => ?_)
    · replace h := o_tt c2 h
      cases h
      exact o_rv C hP hS d_Tx_endString_29
    · replace h := o_ff c2 h
      refine lv_aload_n hx hb d_Tx_endString_12 rfl (lv_at hl 0 rfl) ?_
      refine o_get (v := .ref (ad 15)) C in_Tx hP 12 cw_12 rfl 2 (by decide) k_1_48 rfl rfl d_Tx_endString_13 ?_
      refine lv_iload_n hx hb d_Tx_endString_16 rfl (lv_at hl 1 rfl) ?_
      refine lv_aload_n hx hb d_Tx_endString_17 rfl (lv_at hl 0 rfl) ?_
      refine o_get (v := .int (Tx_used a0)) C in_Tx hP 12 cw_12 rfl 11 (by decide) k_1_57 rfl rfl d_Tx_endString_18 ?_
      refine lv_aload_n hx hb d_Tx_endString_21 rfl (lv_at hl 0 rfl) ?_
      refine o_get (v := .ref (ad 18)) C in_Tx hP 12 cw_12 rfl 5 (by decide) k_1_51 rfl rfl d_Tx_endString_22 ?_
      refine lv_iload_n hx hb d_Tx_endString_25 rfl (lv_at hl 1 rfl) ?_
      obtain ⟨g3, h⟩ := o_gd_some h
      refine o_iald (f := (Tx_starts a0)) C hP 18 15 cw_18 rfl g3 d_Tx_endString_26 ?_
      refine lv_isub hx hb d_Tx_endString_27 ?_
      obtain ⟨g4, h⟩ := o_gd_some h
      refine o_iast (f := (Tx_sizes a0)) (w1 := (o_cw ad ca rt Sj T0 (Tx_mk (Tx_kinds a0) (Tx_places a0) (upd (Tx_sizes a0) x1.toNatClampNeg ((Tx_used a0) - ((Tx_starts a0) x1.toNatClampNeg))) (Tx_parents a0) (Tx_exponents a0) (Tx_starts a0) (Tx_afters a0) (Tx_slots a0) (Tx_negatives a0) (Tx_cells a0) (Tx_total a0) (Tx_used a0) (Tx_characters a0)) Rd Pg Pt Mk Lk Ck Jd Ld Pr)) C hP (hDD _ _ _ _ _ _ _ _ _ _ _ _ _) hS 15 12 cw_15 rfl g4 rfl d_Tx_endString_28 (fun H locs hP hS => ?_)
      cases h
      exact o_rv C hP hS d_Tx_endString_29
set_option maxHeartbeats 4000000 in
set_option maxRecDepth 100000 in
theorem c_Tx_addCharacter_0 {E : (Nat → Prop) → State → Heap → Prop} {D : va_G} {ad : Nat → Nat} {ca : Nat → ClassId} (hE : o_Ek E) (l : Launch) (x1 : Int32) (a0 : STx) (Sj : SSJ) (T1 : STx) (Rd : SRd) (Pg : SPg) (Pt : SPt) (Mk : SMk) (Lk : SLk) (Ck : SCk) (Jd : SJd) (Ld : SLd) (Pr : SPr) (rt : Nat) {r : Int32 × STx} (h : m_Tx_addCharacter x1 a0 = some r) : o_Cn E l D o_cls (o_tys ca) y_Tx_addCharacter cc_Tx_addCharacter rm_Tx_addCharacter [.ref (ad 1), .int x1] (o_cw ad ca rt Sj a0 T1 Rd Pg Pt Mk Lk Ck Jd Ld Pr) (o_cw ad ca rt Sj r.2 T1 Rd Pg Pt Mk Lk Ck Jd Ld Pr) (some (.int r.1)) := by
  refine o_Cn_of (by decide) (Nat.le_of_ble_eq_true rfl) ?_
  intro p e s m below meth c A ls C hD hP hS hl
  have hDD : ∀ (rt : Nat) (Sj : SSJ) (T0 : STx) (T1 : STx) (Rd : SRd) (Pg : SPg) (Pt : SPt) (Mk : SMk) (Lk : SLk) (Ck : SCk) (Jd : SJd) (Ld : SLd) (Pr : SPr), va_D A (o_cw ad ca rt Sj T0 T1 Rd Pg Pt Mk Lk Ck Jd Ld Pr) := fun _ _ _ _ _ _ _ _ _ _ _ _ _ => o_D_map hD rfl
  have hl : lv_has ls 2 [(0, .ref (ad 1)), (1, .int x1)] := hl
  unfold m_Tx_addCharacter at h
  have C0 := C
  obtain ⟨hx, hb, -, -, -, hown, hts, hK, -, -⟩ := C0
  refine lv_aload_n hx hb d_Tx_addCharacter_0 rfl (lv_at hl 0 rfl) ?_
  refine o_get (v := .int (Tx_characters a0)) C in_Tx hP 1 cw_1 rfl 12 (by decide) k_1_58 rfl rfl d_Tx_addCharacter_1 ?_
  refine lv_sipush (v := (4000:Int32)) hx hb d_Tx_addCharacter_4 (by decide) ?_
  refine lv_icmp_ge (tgt := 22) hx hb d_Tx_addCharacter_7 (by decide) (fun c1 => ?_) (fun c1 => ?_)
  · replace h := o_tt c1 h
    refine lv_iconst (v := (0:Int32)) hx hb d_Tx_addCharacter_22 (by decide) ?_
    cases h
    exact o_rz (v := (0:Int32)) C o_nar0 hP hS d_Tx_addCharacter_23
  · replace h := o_ff c1 h
    refine lv_aload_n hx hb d_Tx_addCharacter_10 rfl (lv_at hl 0 rfl) ?_
    refine o_get (v := .int (Tx_used a0)) C in_Tx hP 1 cw_1 rfl 11 (by decide) k_1_57 rfl rfl d_Tx_addCharacter_11 ?_
    refine lv_aload_n hx hb d_Tx_addCharacter_14 rfl (lv_at hl 0 rfl) ?_
    refine o_get (v := .ref (ad 11)) C in_Tx hP 1 cw_1 rfl 9 (by decide) k_1_55 rfl rfl d_Tx_addCharacter_15 ?_
    refine va_alen (v := (8192:Int32)) hx hb hK hP 11 9 cw_11 rfl rfl d_Tx_addCharacter_18 ?_
    refine lv_icmp_lt (tgt := 24) hx hb d_Tx_addCharacter_19 (by decide) (fun c2 => ?_) (fun c2 => ?_)
    · replace h := o_tt c2 h
      refine lv_aload_n hx hb d_Tx_addCharacter_24 rfl (lv_at hl 0 rfl) ?_
      refine lv_dup hx hb d_Tx_addCharacter_25 rfl ?_
      refine o_get (v := .int (Tx_characters a0)) C in_Tx hP 1 cw_1 rfl 12 (by decide) k_1_58 rfl rfl d_Tx_addCharacter_26 ?_
      refine lv_iconst (v := (1:Int32)) hx hb d_Tx_addCharacter_29 (by decide) ?_
      refine lv_iadd hx hb d_Tx_addCharacter_30 ?_
      refine o_put (v := .int ((Tx_characters a0) + (1:Int32))) (ty := .int) (w1 := (o_cw ad ca rt Sj (Tx_mk (Tx_kinds a0) (Tx_places a0) (Tx_sizes a0) (Tx_parents a0) (Tx_exponents a0) (Tx_starts a0) (Tx_afters a0) (Tx_slots a0) (Tx_negatives a0) (Tx_cells a0) (Tx_total a0) (Tx_used a0) ((Tx_characters a0) + (1:Int32))) T1 Rd Pg Pt Mk Lk Ck Jd Ld Pr)) C in_Tx t_Tx t_Tx_ok n_Tx hP (hDD _ _ _ _ _ _ _ _ _ _ _ _ _) hS 1 cw_1 rfl 12 (by decide) k_1_58 rfl rfl (by decide +kernel) rfl rfl (Nat.le_of_ble_eq_true rfl) rfl d_Tx_addCharacter_31 (fun H locs hP hS => ?_)
      refine lv_aload_n hx hb d_Tx_addCharacter_34 rfl (lv_at hl 0 rfl) ?_
      refine o_get (v := .ref (ad 11)) C in_Tx hP 1 cw_1 rfl 9 (by decide) k_1_55 rfl rfl d_Tx_addCharacter_35 ?_
      refine lv_aload_n hx hb d_Tx_addCharacter_38 rfl (lv_at hl 0 rfl) ?_
      refine o_get (v := .int (Tx_used a0)) C in_Tx hP 1 cw_1 rfl 11 (by decide) k_1_57 rfl rfl d_Tx_addCharacter_39 ?_
      refine lv_iload_n hx hb d_Tx_addCharacter_42 rfl (lv_at hl 1 rfl) ?_
      obtain ⟨g3, h⟩ := o_gd_some h
      refine o_iast (f := (Tx_cells a0)) (w1 := (o_cw ad ca rt Sj (Tx_mk (Tx_kinds a0) (Tx_places a0) (Tx_sizes a0) (Tx_parents a0) (Tx_exponents a0) (Tx_starts a0) (Tx_afters a0) (Tx_slots a0) (Tx_negatives a0) (upd (Tx_cells a0) (Tx_used a0).toNatClampNeg x1) (Tx_total a0) (Tx_used a0) ((Tx_characters a0) + (1:Int32))) T1 Rd Pg Pt Mk Lk Ck Jd Ld Pr)) C hP (hDD _ _ _ _ _ _ _ _ _ _ _ _ _) hS 11 9 cw_11 rfl g3 rfl d_Tx_addCharacter_43 (fun H locs hP hS => ?_)
      refine lv_aload_n hx hb d_Tx_addCharacter_44 rfl (lv_at hl 0 rfl) ?_
      refine lv_dup hx hb d_Tx_addCharacter_45 rfl ?_
      refine o_get (v := .int (Tx_used a0)) C in_Tx hP 1 cw_1 rfl 11 (by decide) k_1_57 rfl rfl d_Tx_addCharacter_46 ?_
      refine lv_iconst (v := (1:Int32)) hx hb d_Tx_addCharacter_49 (by decide) ?_
      refine lv_iadd hx hb d_Tx_addCharacter_50 ?_
      refine o_put (v := .int ((Tx_used a0) + (1:Int32))) (ty := .int) (w1 := (o_cw ad ca rt Sj (Tx_mk (Tx_kinds a0) (Tx_places a0) (Tx_sizes a0) (Tx_parents a0) (Tx_exponents a0) (Tx_starts a0) (Tx_afters a0) (Tx_slots a0) (Tx_negatives a0) (upd (Tx_cells a0) (Tx_used a0).toNatClampNeg x1) (Tx_total a0) ((Tx_used a0) + (1:Int32)) ((Tx_characters a0) + (1:Int32))) T1 Rd Pg Pt Mk Lk Ck Jd Ld Pr)) C in_Tx t_Tx t_Tx_ok n_Tx hP (hDD _ _ _ _ _ _ _ _ _ _ _ _ _) hS 1 cw_1 rfl 11 (by decide) k_1_57 rfl rfl (by decide +kernel) rfl rfl (Nat.le_of_ble_eq_true rfl) rfl d_Tx_addCharacter_51 (fun H locs hP hS => ?_)
      refine lv_iconst (v := (1:Int32)) hx hb d_Tx_addCharacter_54 (by decide) ?_
      cases h
      exact o_rz (v := (1:Int32)) C o_nar1 hP hS d_Tx_addCharacter_55
    · replace h := o_ff c2 h
      refine lv_iconst (v := (0:Int32)) hx hb d_Tx_addCharacter_22 (by decide) ?_
      cases h
      exact o_rz (v := (0:Int32)) C o_nar0 hP hS d_Tx_addCharacter_23
set_option maxHeartbeats 4000000 in
set_option maxRecDepth 100000 in
theorem c_Tx_addCharacter_1 {E : (Nat → Prop) → State → Heap → Prop} {D : va_G} {ad : Nat → Nat} {ca : Nat → ClassId} (hE : o_Ek E) (l : Launch) (x1 : Int32) (a0 : STx) (Sj : SSJ) (T0 : STx) (Rd : SRd) (Pg : SPg) (Pt : SPt) (Mk : SMk) (Lk : SLk) (Ck : SCk) (Jd : SJd) (Ld : SLd) (Pr : SPr) (rt : Nat) {r : Int32 × STx} (h : m_Tx_addCharacter x1 a0 = some r) : o_Cn E l D o_cls (o_tys ca) y_Tx_addCharacter cc_Tx_addCharacter rm_Tx_addCharacter [.ref (ad 12), .int x1] (o_cw ad ca rt Sj T0 a0 Rd Pg Pt Mk Lk Ck Jd Ld Pr) (o_cw ad ca rt Sj T0 r.2 Rd Pg Pt Mk Lk Ck Jd Ld Pr) (some (.int r.1)) := by
  refine o_Cn_of (by decide) (Nat.le_of_ble_eq_true rfl) ?_
  intro p e s m below meth c A ls C hD hP hS hl
  have hDD : ∀ (rt : Nat) (Sj : SSJ) (T0 : STx) (T1 : STx) (Rd : SRd) (Pg : SPg) (Pt : SPt) (Mk : SMk) (Lk : SLk) (Ck : SCk) (Jd : SJd) (Ld : SLd) (Pr : SPr), va_D A (o_cw ad ca rt Sj T0 T1 Rd Pg Pt Mk Lk Ck Jd Ld Pr) := fun _ _ _ _ _ _ _ _ _ _ _ _ _ => o_D_map hD rfl
  have hl : lv_has ls 2 [(0, .ref (ad 12)), (1, .int x1)] := hl
  unfold m_Tx_addCharacter at h
  have C0 := C
  obtain ⟨hx, hb, -, -, -, hown, hts, hK, -, -⟩ := C0
  refine lv_aload_n hx hb d_Tx_addCharacter_0 rfl (lv_at hl 0 rfl) ?_
  refine o_get (v := .int (Tx_characters a0)) C in_Tx hP 12 cw_12 rfl 12 (by decide) k_1_58 rfl rfl d_Tx_addCharacter_1 ?_
  refine lv_sipush (v := (4000:Int32)) hx hb d_Tx_addCharacter_4 (by decide) ?_
  refine lv_icmp_ge (tgt := 22) hx hb d_Tx_addCharacter_7 (by decide) (fun c1 => ?_) (fun c1 => ?_)
  · replace h := o_tt c1 h
    refine lv_iconst (v := (0:Int32)) hx hb d_Tx_addCharacter_22 (by decide) ?_
    cases h
    exact o_rz (v := (0:Int32)) C o_nar0 hP hS d_Tx_addCharacter_23
  · replace h := o_ff c1 h
    refine lv_aload_n hx hb d_Tx_addCharacter_10 rfl (lv_at hl 0 rfl) ?_
    refine o_get (v := .int (Tx_used a0)) C in_Tx hP 12 cw_12 rfl 11 (by decide) k_1_57 rfl rfl d_Tx_addCharacter_11 ?_
    refine lv_aload_n hx hb d_Tx_addCharacter_14 rfl (lv_at hl 0 rfl) ?_
    refine o_get (v := .ref (ad 22)) C in_Tx hP 12 cw_12 rfl 9 (by decide) k_1_55 rfl rfl d_Tx_addCharacter_15 ?_
    refine va_alen (v := (8192:Int32)) hx hb hK hP 22 19 cw_22 rfl rfl d_Tx_addCharacter_18 ?_
    refine lv_icmp_lt (tgt := 24) hx hb d_Tx_addCharacter_19 (by decide) (fun c2 => ?_) (fun c2 => ?_)
    · replace h := o_tt c2 h
      refine lv_aload_n hx hb d_Tx_addCharacter_24 rfl (lv_at hl 0 rfl) ?_
      refine lv_dup hx hb d_Tx_addCharacter_25 rfl ?_
      refine o_get (v := .int (Tx_characters a0)) C in_Tx hP 12 cw_12 rfl 12 (by decide) k_1_58 rfl rfl d_Tx_addCharacter_26 ?_
      refine lv_iconst (v := (1:Int32)) hx hb d_Tx_addCharacter_29 (by decide) ?_
      refine lv_iadd hx hb d_Tx_addCharacter_30 ?_
      refine o_put (v := .int ((Tx_characters a0) + (1:Int32))) (ty := .int) (w1 := (o_cw ad ca rt Sj T0 (Tx_mk (Tx_kinds a0) (Tx_places a0) (Tx_sizes a0) (Tx_parents a0) (Tx_exponents a0) (Tx_starts a0) (Tx_afters a0) (Tx_slots a0) (Tx_negatives a0) (Tx_cells a0) (Tx_total a0) (Tx_used a0) ((Tx_characters a0) + (1:Int32))) Rd Pg Pt Mk Lk Ck Jd Ld Pr)) C in_Tx t_Tx t_Tx_ok n_Tx hP (hDD _ _ _ _ _ _ _ _ _ _ _ _ _) hS 12 cw_12 rfl 12 (by decide) k_1_58 rfl rfl (by decide +kernel) rfl rfl (Nat.le_of_ble_eq_true rfl) rfl d_Tx_addCharacter_31 (fun H locs hP hS => ?_)
      refine lv_aload_n hx hb d_Tx_addCharacter_34 rfl (lv_at hl 0 rfl) ?_
      refine o_get (v := .ref (ad 22)) C in_Tx hP 12 cw_12 rfl 9 (by decide) k_1_55 rfl rfl d_Tx_addCharacter_35 ?_
      refine lv_aload_n hx hb d_Tx_addCharacter_38 rfl (lv_at hl 0 rfl) ?_
      refine o_get (v := .int (Tx_used a0)) C in_Tx hP 12 cw_12 rfl 11 (by decide) k_1_57 rfl rfl d_Tx_addCharacter_39 ?_
      refine lv_iload_n hx hb d_Tx_addCharacter_42 rfl (lv_at hl 1 rfl) ?_
      obtain ⟨g3, h⟩ := o_gd_some h
      refine o_iast (f := (Tx_cells a0)) (w1 := (o_cw ad ca rt Sj T0 (Tx_mk (Tx_kinds a0) (Tx_places a0) (Tx_sizes a0) (Tx_parents a0) (Tx_exponents a0) (Tx_starts a0) (Tx_afters a0) (Tx_slots a0) (Tx_negatives a0) (upd (Tx_cells a0) (Tx_used a0).toNatClampNeg x1) (Tx_total a0) (Tx_used a0) ((Tx_characters a0) + (1:Int32))) Rd Pg Pt Mk Lk Ck Jd Ld Pr)) C hP (hDD _ _ _ _ _ _ _ _ _ _ _ _ _) hS 22 19 cw_22 rfl g3 rfl d_Tx_addCharacter_43 (fun H locs hP hS => ?_)
      refine lv_aload_n hx hb d_Tx_addCharacter_44 rfl (lv_at hl 0 rfl) ?_
      refine lv_dup hx hb d_Tx_addCharacter_45 rfl ?_
      refine o_get (v := .int (Tx_used a0)) C in_Tx hP 12 cw_12 rfl 11 (by decide) k_1_57 rfl rfl d_Tx_addCharacter_46 ?_
      refine lv_iconst (v := (1:Int32)) hx hb d_Tx_addCharacter_49 (by decide) ?_
      refine lv_iadd hx hb d_Tx_addCharacter_50 ?_
      refine o_put (v := .int ((Tx_used a0) + (1:Int32))) (ty := .int) (w1 := (o_cw ad ca rt Sj T0 (Tx_mk (Tx_kinds a0) (Tx_places a0) (Tx_sizes a0) (Tx_parents a0) (Tx_exponents a0) (Tx_starts a0) (Tx_afters a0) (Tx_slots a0) (Tx_negatives a0) (upd (Tx_cells a0) (Tx_used a0).toNatClampNeg x1) (Tx_total a0) ((Tx_used a0) + (1:Int32)) ((Tx_characters a0) + (1:Int32))) Rd Pg Pt Mk Lk Ck Jd Ld Pr)) C in_Tx t_Tx t_Tx_ok n_Tx hP (hDD _ _ _ _ _ _ _ _ _ _ _ _ _) hS 12 cw_12 rfl 11 (by decide) k_1_57 rfl rfl (by decide +kernel) rfl rfl (Nat.le_of_ble_eq_true rfl) rfl d_Tx_addCharacter_51 (fun H locs hP hS => ?_)
      refine lv_iconst (v := (1:Int32)) hx hb d_Tx_addCharacter_54 (by decide) ?_
      cases h
      exact o_rz (v := (1:Int32)) C o_nar1 hP hS d_Tx_addCharacter_55
    · replace h := o_ff c2 h
      refine lv_iconst (v := (0:Int32)) hx hb d_Tx_addCharacter_22 (by decide) ?_
      cases h
      exact o_rz (v := (0:Int32)) C o_nar0 hP hS d_Tx_addCharacter_23
set_option maxHeartbeats 4000000 in
set_option maxRecDepth 100000 in
theorem c_Tx_endParent_0 {E : (Nat → Prop) → State → Heap → Prop} {D : va_G} {ad : Nat → Nat} {ca : Nat → ClassId} (hE : o_Ek E) (l : Launch) (x1 : Int32) (x2 : Int32) (a0 : STx) (Sj : SSJ) (T1 : STx) (Rd : SRd) (Pg : SPg) (Pt : SPt) (Mk : SMk) (Lk : SLk) (Ck : SCk) (Jd : SJd) (Ld : SLd) (Pr : SPr) (rt : Nat) {r : STx} (h : m_Tx_endParent x1 x2 a0 = some r) : o_Cn E l D o_cls (o_tys ca) y_Tx_endParent cc_Tx_endParent rm_Tx_endParent [.ref (ad 1), .int x1, .int x2] (o_cw ad ca rt Sj a0 T1 Rd Pg Pt Mk Lk Ck Jd Ld Pr) (o_cw ad ca rt Sj r T1 Rd Pg Pt Mk Lk Ck Jd Ld Pr) none := by
  refine o_Cn_of (by decide) (Nat.le_of_ble_eq_true rfl) ?_
  intro p e s m below meth c A ls C hD hP hS hl
  have hDD : ∀ (rt : Nat) (Sj : SSJ) (T0 : STx) (T1 : STx) (Rd : SRd) (Pg : SPg) (Pt : SPt) (Mk : SMk) (Lk : SLk) (Ck : SCk) (Jd : SJd) (Ld : SLd) (Pr : SPr), va_D A (o_cw ad ca rt Sj T0 T1 Rd Pg Pt Mk Lk Ck Jd Ld Pr) := fun _ _ _ _ _ _ _ _ _ _ _ _ _ => o_D_map hD rfl
  have hl : lv_has ls 3 [(0, .ref (ad 1)), (1, .int x1), (2, .int x2)] := hl
  unfold m_Tx_endParent at h
  have C0 := C
  obtain ⟨hx, hb, -, -, -, hown, hts, hK, -, -⟩ := C0
  refine lv_iload_n hx hb d_Tx_endParent_0 rfl (lv_at hl 1 rfl) ?_
  refine lv_if_lt (tgt := 29) hx hb d_Tx_endParent_1 (by decide) (fun c1 => ?_) (fun c1 => ?_)
  · replace h := o_tt c1 h
    cases h
    exact o_rv C hP hS d_Tx_endParent_29
  · replace h := o_ff c1 h
    refine lv_iload_n hx hb d_Tx_endParent_4 rfl (lv_at hl 1 rfl) ?_
    refine lv_aload_n hx hb d_Tx_endParent_5 rfl (lv_at hl 0 rfl) ?_
    refine o_get (v := .int (Tx_total a0)) C in_Tx hP 1 cw_1 rfl 10 (by decide) k_1_56 rfl rfl d_Tx_endParent_6 ?_
    refine lv_icmp_ge (tgt := 29) hx hb d_Tx_endParent_9 (by decide) (fun c2 => ?_) (fun c2 => ?_)
    · replace h := o_tt c2 h
      cases h
      exact o_rv C hP hS d_Tx_endParent_29
    · replace h := o_ff c2 h
      refine lv_aload_n hx hb d_Tx_endParent_12 rfl (lv_at hl 0 rfl) ?_
      refine o_get (v := .ref (ad 4)) C in_Tx hP 1 cw_1 rfl 2 (by decide) k_1_48 rfl rfl d_Tx_endParent_13 ?_
      refine lv_iload_n hx hb d_Tx_endParent_16 rfl (lv_at hl 1 rfl) ?_
      refine lv_iload_n hx hb d_Tx_endParent_17 rfl (lv_at hl 2 rfl) ?_
      obtain ⟨g3, h⟩ := o_gd_some h
      refine o_iast (f := (Tx_sizes a0)) (w1 := (o_cw ad ca rt Sj (Tx_mk (Tx_kinds a0) (Tx_places a0) (upd (Tx_sizes a0) x1.toNatClampNeg x2) (Tx_parents a0) (Tx_exponents a0) (Tx_starts a0) (Tx_afters a0) (Tx_slots a0) (Tx_negatives a0) (Tx_cells a0) (Tx_total a0) (Tx_used a0) (Tx_characters a0)) T1 Rd Pg Pt Mk Lk Ck Jd Ld Pr)) C hP (hDD _ _ _ _ _ _ _ _ _ _ _ _ _) hS 4 2 cw_4 rfl g3 rfl d_Tx_endParent_18 (fun H locs hP hS => ?_)
      refine lv_aload_n hx hb d_Tx_endParent_19 rfl (lv_at hl 0 rfl) ?_
      refine o_get (v := .ref (ad 8)) C in_Tx hP 1 cw_1 rfl 6 (by decide) k_1_52 rfl rfl d_Tx_endParent_20 ?_
      refine lv_iload_n hx hb d_Tx_endParent_23 rfl (lv_at hl 1 rfl) ?_
      refine lv_aload_n hx hb d_Tx_endParent_24 rfl (lv_at hl 0 rfl) ?_
      refine o_get (v := .int (Tx_total a0)) C in_Tx hP 1 cw_1 rfl 10 (by decide) k_1_56 rfl rfl d_Tx_endParent_25 ?_
      obtain ⟨g4, h⟩ := o_gd_some h
      refine o_iast (f := (Tx_afters a0)) (w1 := (o_cw ad ca rt Sj (Tx_mk (Tx_kinds a0) (Tx_places a0) (upd (Tx_sizes a0) x1.toNatClampNeg x2) (Tx_parents a0) (Tx_exponents a0) (Tx_starts a0) (upd (Tx_afters a0) x1.toNatClampNeg (Tx_total a0)) (Tx_slots a0) (Tx_negatives a0) (Tx_cells a0) (Tx_total a0) (Tx_used a0) (Tx_characters a0)) T1 Rd Pg Pt Mk Lk Ck Jd Ld Pr)) C hP (hDD _ _ _ _ _ _ _ _ _ _ _ _ _) hS 8 6 cw_8 rfl g4 rfl d_Tx_endParent_28 (fun H locs hP hS => ?_)
      cases h
      exact o_rv C hP hS d_Tx_endParent_29
set_option maxHeartbeats 4000000 in
set_option maxRecDepth 100000 in
theorem c_Tx_endParent_1 {E : (Nat → Prop) → State → Heap → Prop} {D : va_G} {ad : Nat → Nat} {ca : Nat → ClassId} (hE : o_Ek E) (l : Launch) (x1 : Int32) (x2 : Int32) (a0 : STx) (Sj : SSJ) (T0 : STx) (Rd : SRd) (Pg : SPg) (Pt : SPt) (Mk : SMk) (Lk : SLk) (Ck : SCk) (Jd : SJd) (Ld : SLd) (Pr : SPr) (rt : Nat) {r : STx} (h : m_Tx_endParent x1 x2 a0 = some r) : o_Cn E l D o_cls (o_tys ca) y_Tx_endParent cc_Tx_endParent rm_Tx_endParent [.ref (ad 12), .int x1, .int x2] (o_cw ad ca rt Sj T0 a0 Rd Pg Pt Mk Lk Ck Jd Ld Pr) (o_cw ad ca rt Sj T0 r Rd Pg Pt Mk Lk Ck Jd Ld Pr) none := by
  refine o_Cn_of (by decide) (Nat.le_of_ble_eq_true rfl) ?_
  intro p e s m below meth c A ls C hD hP hS hl
  have hDD : ∀ (rt : Nat) (Sj : SSJ) (T0 : STx) (T1 : STx) (Rd : SRd) (Pg : SPg) (Pt : SPt) (Mk : SMk) (Lk : SLk) (Ck : SCk) (Jd : SJd) (Ld : SLd) (Pr : SPr), va_D A (o_cw ad ca rt Sj T0 T1 Rd Pg Pt Mk Lk Ck Jd Ld Pr) := fun _ _ _ _ _ _ _ _ _ _ _ _ _ => o_D_map hD rfl
  have hl : lv_has ls 3 [(0, .ref (ad 12)), (1, .int x1), (2, .int x2)] := hl
  unfold m_Tx_endParent at h
  have C0 := C
  obtain ⟨hx, hb, -, -, -, hown, hts, hK, -, -⟩ := C0
  refine lv_iload_n hx hb d_Tx_endParent_0 rfl (lv_at hl 1 rfl) ?_
  refine lv_if_lt (tgt := 29) hx hb d_Tx_endParent_1 (by decide) (fun c1 => ?_) (fun c1 => ?_)
  · replace h := o_tt c1 h
    cases h
    exact o_rv C hP hS d_Tx_endParent_29
  · replace h := o_ff c1 h
    refine lv_iload_n hx hb d_Tx_endParent_4 rfl (lv_at hl 1 rfl) ?_
    refine lv_aload_n hx hb d_Tx_endParent_5 rfl (lv_at hl 0 rfl) ?_
    refine o_get (v := .int (Tx_total a0)) C in_Tx hP 12 cw_12 rfl 10 (by decide) k_1_56 rfl rfl d_Tx_endParent_6 ?_
    refine lv_icmp_ge (tgt := 29) hx hb d_Tx_endParent_9 (by decide) (fun c2 => ?_) (fun c2 => ?_)
    · replace h := o_tt c2 h
      cases h
      exact o_rv C hP hS d_Tx_endParent_29
    · replace h := o_ff c2 h
      refine lv_aload_n hx hb d_Tx_endParent_12 rfl (lv_at hl 0 rfl) ?_
      refine o_get (v := .ref (ad 15)) C in_Tx hP 12 cw_12 rfl 2 (by decide) k_1_48 rfl rfl d_Tx_endParent_13 ?_
      refine lv_iload_n hx hb d_Tx_endParent_16 rfl (lv_at hl 1 rfl) ?_
      refine lv_iload_n hx hb d_Tx_endParent_17 rfl (lv_at hl 2 rfl) ?_
      obtain ⟨g3, h⟩ := o_gd_some h
      refine o_iast (f := (Tx_sizes a0)) (w1 := (o_cw ad ca rt Sj T0 (Tx_mk (Tx_kinds a0) (Tx_places a0) (upd (Tx_sizes a0) x1.toNatClampNeg x2) (Tx_parents a0) (Tx_exponents a0) (Tx_starts a0) (Tx_afters a0) (Tx_slots a0) (Tx_negatives a0) (Tx_cells a0) (Tx_total a0) (Tx_used a0) (Tx_characters a0)) Rd Pg Pt Mk Lk Ck Jd Ld Pr)) C hP (hDD _ _ _ _ _ _ _ _ _ _ _ _ _) hS 15 12 cw_15 rfl g3 rfl d_Tx_endParent_18 (fun H locs hP hS => ?_)
      refine lv_aload_n hx hb d_Tx_endParent_19 rfl (lv_at hl 0 rfl) ?_
      refine o_get (v := .ref (ad 19)) C in_Tx hP 12 cw_12 rfl 6 (by decide) k_1_52 rfl rfl d_Tx_endParent_20 ?_
      refine lv_iload_n hx hb d_Tx_endParent_23 rfl (lv_at hl 1 rfl) ?_
      refine lv_aload_n hx hb d_Tx_endParent_24 rfl (lv_at hl 0 rfl) ?_
      refine o_get (v := .int (Tx_total a0)) C in_Tx hP 12 cw_12 rfl 10 (by decide) k_1_56 rfl rfl d_Tx_endParent_25 ?_
      obtain ⟨g4, h⟩ := o_gd_some h
      refine o_iast (f := (Tx_afters a0)) (w1 := (o_cw ad ca rt Sj T0 (Tx_mk (Tx_kinds a0) (Tx_places a0) (upd (Tx_sizes a0) x1.toNatClampNeg x2) (Tx_parents a0) (Tx_exponents a0) (Tx_starts a0) (upd (Tx_afters a0) x1.toNatClampNeg (Tx_total a0)) (Tx_slots a0) (Tx_negatives a0) (Tx_cells a0) (Tx_total a0) (Tx_used a0) (Tx_characters a0)) Rd Pg Pt Mk Lk Ck Jd Ld Pr)) C hP (hDD _ _ _ _ _ _ _ _ _ _ _ _ _) hS 19 16 cw_19 rfl g4 rfl d_Tx_endParent_28 (fun H locs hP hS => ?_)
      cases h
      exact o_rv C hP hS d_Tx_endParent_29
set_option maxHeartbeats 4000000 in
set_option maxRecDepth 100000 in
theorem c_Tx_firstChild_0 {E : (Nat → Prop) → State → Heap → Prop} {D : va_G} {ad : Nat → Nat} {ca : Nat → ClassId} (hE : o_Ek E) (l : Launch) (x1 : Int32) (a0 : STx) (Sj : SSJ) (T1 : STx) (Rd : SRd) (Pg : SPg) (Pt : SPt) (Mk : SMk) (Lk : SLk) (Ck : SCk) (Jd : SJd) (Ld : SLd) (Pr : SPr) (rt : Nat) {r : Int32} (h : m_Tx_firstChild x1 a0 = some r) : o_Cn E l D o_cls (o_tys ca) y_Tx_firstChild cc_Tx_firstChild rm_Tx_firstChild [.ref (ad 1), .int x1] (o_cw ad ca rt Sj a0 T1 Rd Pg Pt Mk Lk Ck Jd Ld Pr) (o_cw ad ca rt Sj a0 T1 Rd Pg Pt Mk Lk Ck Jd Ld Pr) (some (.int r)) := by
  refine o_Cn_of (by decide) (Nat.le_of_ble_eq_true rfl) ?_
  intro p e s m below meth c A ls C hD hP hS hl
  have hDD : ∀ (rt : Nat) (Sj : SSJ) (T0 : STx) (T1 : STx) (Rd : SRd) (Pg : SPg) (Pt : SPt) (Mk : SMk) (Lk : SLk) (Ck : SCk) (Jd : SJd) (Ld : SLd) (Pr : SPr), va_D A (o_cw ad ca rt Sj T0 T1 Rd Pg Pt Mk Lk Ck Jd Ld Pr) := fun _ _ _ _ _ _ _ _ _ _ _ _ _ => o_D_map hD rfl
  have hl : lv_has ls 2 [(0, .ref (ad 1)), (1, .int x1)] := hl
  unfold m_Tx_firstChild at h
  have C0 := C
  obtain ⟨hx, hb, -, -, -, hown, hts, hK, -, -⟩ := C0
  refine lv_iload_n hx hb d_Tx_firstChild_0 rfl (lv_at hl 1 rfl) ?_
  refine lv_if_lt (tgt := 31) hx hb d_Tx_firstChild_1 (by decide) (fun c1 => ?_) (fun c1 => ?_)
  · replace h := o_tt c1 h
    refine lv_iconst (v := (-1:Int32)) hx hb d_Tx_firstChild_31 (by decide) ?_
    cases h
    exact o_ri (v := (-1:Int32)) C hP hS d_Tx_firstChild_32
  · replace h := o_ff c1 h
    refine lv_iload_n hx hb d_Tx_firstChild_4 rfl (lv_at hl 1 rfl) ?_
    refine lv_aload_n hx hb d_Tx_firstChild_5 rfl (lv_at hl 0 rfl) ?_
    refine o_get (v := .int (Tx_total a0)) C in_Tx hP 1 cw_1 rfl 10 (by decide) k_1_56 rfl rfl d_Tx_firstChild_6 ?_
    refine lv_icmp_ge (tgt := 31) hx hb d_Tx_firstChild_9 (by decide) (fun c2 => ?_) (fun c2 => ?_)
    · replace h := o_tt c2 h
      refine lv_iconst (v := (-1:Int32)) hx hb d_Tx_firstChild_31 (by decide) ?_
      cases h
      exact o_ri (v := (-1:Int32)) C hP hS d_Tx_firstChild_32
    · replace h := o_ff c2 h
      refine lv_aload_n hx hb d_Tx_firstChild_12 rfl (lv_at hl 0 rfl) ?_
      refine o_get (v := .ref (ad 4)) C in_Tx hP 1 cw_1 rfl 2 (by decide) k_1_48 rfl rfl d_Tx_firstChild_13 ?_
      refine lv_iload_n hx hb d_Tx_firstChild_16 rfl (lv_at hl 1 rfl) ?_
      obtain ⟨g3, h⟩ := o_gd_some h
      refine o_iald (f := (Tx_sizes a0)) C hP 4 2 cw_4 rfl g3 d_Tx_firstChild_17 ?_
      refine lv_if_eq (tgt := 31) hx hb d_Tx_firstChild_18 (by decide) (fun c4 => ?_) (fun c4 => ?_)
      · replace h := o_tt c4 h
        refine lv_iconst (v := (-1:Int32)) hx hb d_Tx_firstChild_31 (by decide) ?_
        cases h
        exact o_ri (v := (-1:Int32)) C hP hS d_Tx_firstChild_32
      · replace h := o_ff c4 h
        refine lv_aload_n hx hb d_Tx_firstChild_21 rfl (lv_at hl 0 rfl) ?_
        refine o_get (v := .ref (ad 2)) C in_Tx hP 1 cw_1 rfl 0 (by decide) k_1_46 rfl rfl d_Tx_firstChild_22 ?_
        refine lv_iload_n hx hb d_Tx_firstChild_25 rfl (lv_at hl 1 rfl) ?_
        obtain ⟨g5, h⟩ := o_gd_some h
        refine o_iald (f := (Tx_kinds a0)) C hP 2 0 cw_2 rfl g5 d_Tx_firstChild_26 ?_
        refine lv_iconst (v := (5:Int32)) hx hb d_Tx_firstChild_27 (by decide) ?_
        refine lv_icmp_ge (tgt := 33) hx hb d_Tx_firstChild_28 (by decide) (fun c6 => ?_) (fun c6 => ?_)
        · replace h := o_tt c6 h
          refine lv_aload_n hx hb d_Tx_firstChild_33 rfl (lv_at hl 0 rfl) ?_
          refine o_get (v := .ref (ad 2)) C in_Tx hP 1 cw_1 rfl 0 (by decide) k_1_46 rfl rfl d_Tx_firstChild_34 ?_
          refine lv_iload_n hx hb d_Tx_firstChild_37 rfl (lv_at hl 1 rfl) ?_
          obtain ⟨g7, h⟩ := o_gd_some h
          refine o_iald (f := (Tx_kinds a0)) C hP 2 0 cw_2 rfl g7 d_Tx_firstChild_38 ?_
          refine lv_iconst (v := (5:Int32)) hx hb d_Tx_firstChild_39 (by decide) ?_
          refine lv_icmp_ne (tgt := 49) hx hb d_Tx_firstChild_40 (by decide) (fun c8 => ?_) (fun c8 => ?_)
          · replace h := o_ff c8 h
            refine lv_iload_n hx hb d_Tx_firstChild_49 rfl (lv_at hl 1 rfl) ?_
            refine lv_iconst (v := (2:Int32)) hx hb d_Tx_firstChild_50 (by decide) ?_
            refine lv_iadd hx hb d_Tx_firstChild_51 ?_
            cases h
            exact o_ri (v := (x1 + (2:Int32))) C hP hS d_Tx_firstChild_52
          · replace h := o_tt c8 h
            refine lv_iload_n hx hb d_Tx_firstChild_43 rfl (lv_at hl 1 rfl) ?_
            refine lv_iconst (v := (1:Int32)) hx hb d_Tx_firstChild_44 (by decide) ?_
            refine lv_iadd hx hb d_Tx_firstChild_45 ?_
            refine lv_goto (tgt := 52) hx hb d_Tx_firstChild_46 (by decide) ?_
            cases h
            exact o_ri (v := (x1 + (1:Int32))) C hP hS d_Tx_firstChild_52
        · replace h := o_ff c6 h
          refine lv_iconst (v := (-1:Int32)) hx hb d_Tx_firstChild_31 (by decide) ?_
          cases h
          exact o_ri (v := (-1:Int32)) C hP hS d_Tx_firstChild_32
set_option maxHeartbeats 4000000 in
set_option maxRecDepth 100000 in
theorem c_Tx_firstChild_1 {E : (Nat → Prop) → State → Heap → Prop} {D : va_G} {ad : Nat → Nat} {ca : Nat → ClassId} (hE : o_Ek E) (l : Launch) (x1 : Int32) (a0 : STx) (Sj : SSJ) (T0 : STx) (Rd : SRd) (Pg : SPg) (Pt : SPt) (Mk : SMk) (Lk : SLk) (Ck : SCk) (Jd : SJd) (Ld : SLd) (Pr : SPr) (rt : Nat) {r : Int32} (h : m_Tx_firstChild x1 a0 = some r) : o_Cn E l D o_cls (o_tys ca) y_Tx_firstChild cc_Tx_firstChild rm_Tx_firstChild [.ref (ad 12), .int x1] (o_cw ad ca rt Sj T0 a0 Rd Pg Pt Mk Lk Ck Jd Ld Pr) (o_cw ad ca rt Sj T0 a0 Rd Pg Pt Mk Lk Ck Jd Ld Pr) (some (.int r)) := by
  refine o_Cn_of (by decide) (Nat.le_of_ble_eq_true rfl) ?_
  intro p e s m below meth c A ls C hD hP hS hl
  have hDD : ∀ (rt : Nat) (Sj : SSJ) (T0 : STx) (T1 : STx) (Rd : SRd) (Pg : SPg) (Pt : SPt) (Mk : SMk) (Lk : SLk) (Ck : SCk) (Jd : SJd) (Ld : SLd) (Pr : SPr), va_D A (o_cw ad ca rt Sj T0 T1 Rd Pg Pt Mk Lk Ck Jd Ld Pr) := fun _ _ _ _ _ _ _ _ _ _ _ _ _ => o_D_map hD rfl
  have hl : lv_has ls 2 [(0, .ref (ad 12)), (1, .int x1)] := hl
  unfold m_Tx_firstChild at h
  have C0 := C
  obtain ⟨hx, hb, -, -, -, hown, hts, hK, -, -⟩ := C0
  refine lv_iload_n hx hb d_Tx_firstChild_0 rfl (lv_at hl 1 rfl) ?_
  refine lv_if_lt (tgt := 31) hx hb d_Tx_firstChild_1 (by decide) (fun c1 => ?_) (fun c1 => ?_)
  · replace h := o_tt c1 h
    refine lv_iconst (v := (-1:Int32)) hx hb d_Tx_firstChild_31 (by decide) ?_
    cases h
    exact o_ri (v := (-1:Int32)) C hP hS d_Tx_firstChild_32
  · replace h := o_ff c1 h
    refine lv_iload_n hx hb d_Tx_firstChild_4 rfl (lv_at hl 1 rfl) ?_
    refine lv_aload_n hx hb d_Tx_firstChild_5 rfl (lv_at hl 0 rfl) ?_
    refine o_get (v := .int (Tx_total a0)) C in_Tx hP 12 cw_12 rfl 10 (by decide) k_1_56 rfl rfl d_Tx_firstChild_6 ?_
    refine lv_icmp_ge (tgt := 31) hx hb d_Tx_firstChild_9 (by decide) (fun c2 => ?_) (fun c2 => ?_)
    · replace h := o_tt c2 h
      refine lv_iconst (v := (-1:Int32)) hx hb d_Tx_firstChild_31 (by decide) ?_
      cases h
      exact o_ri (v := (-1:Int32)) C hP hS d_Tx_firstChild_32
    · replace h := o_ff c2 h
      refine lv_aload_n hx hb d_Tx_firstChild_12 rfl (lv_at hl 0 rfl) ?_
      refine o_get (v := .ref (ad 15)) C in_Tx hP 12 cw_12 rfl 2 (by decide) k_1_48 rfl rfl d_Tx_firstChild_13 ?_
      refine lv_iload_n hx hb d_Tx_firstChild_16 rfl (lv_at hl 1 rfl) ?_
      obtain ⟨g3, h⟩ := o_gd_some h
      refine o_iald (f := (Tx_sizes a0)) C hP 15 12 cw_15 rfl g3 d_Tx_firstChild_17 ?_
      refine lv_if_eq (tgt := 31) hx hb d_Tx_firstChild_18 (by decide) (fun c4 => ?_) (fun c4 => ?_)
      · replace h := o_tt c4 h
        refine lv_iconst (v := (-1:Int32)) hx hb d_Tx_firstChild_31 (by decide) ?_
        cases h
        exact o_ri (v := (-1:Int32)) C hP hS d_Tx_firstChild_32
      · replace h := o_ff c4 h
        refine lv_aload_n hx hb d_Tx_firstChild_21 rfl (lv_at hl 0 rfl) ?_
        refine o_get (v := .ref (ad 13)) C in_Tx hP 12 cw_12 rfl 0 (by decide) k_1_46 rfl rfl d_Tx_firstChild_22 ?_
        refine lv_iload_n hx hb d_Tx_firstChild_25 rfl (lv_at hl 1 rfl) ?_
        obtain ⟨g5, h⟩ := o_gd_some h
        refine o_iald (f := (Tx_kinds a0)) C hP 13 10 cw_13 rfl g5 d_Tx_firstChild_26 ?_
        refine lv_iconst (v := (5:Int32)) hx hb d_Tx_firstChild_27 (by decide) ?_
        refine lv_icmp_ge (tgt := 33) hx hb d_Tx_firstChild_28 (by decide) (fun c6 => ?_) (fun c6 => ?_)
        · replace h := o_tt c6 h
          refine lv_aload_n hx hb d_Tx_firstChild_33 rfl (lv_at hl 0 rfl) ?_
          refine o_get (v := .ref (ad 13)) C in_Tx hP 12 cw_12 rfl 0 (by decide) k_1_46 rfl rfl d_Tx_firstChild_34 ?_
          refine lv_iload_n hx hb d_Tx_firstChild_37 rfl (lv_at hl 1 rfl) ?_
          obtain ⟨g7, h⟩ := o_gd_some h
          refine o_iald (f := (Tx_kinds a0)) C hP 13 10 cw_13 rfl g7 d_Tx_firstChild_38 ?_
          refine lv_iconst (v := (5:Int32)) hx hb d_Tx_firstChild_39 (by decide) ?_
          refine lv_icmp_ne (tgt := 49) hx hb d_Tx_firstChild_40 (by decide) (fun c8 => ?_) (fun c8 => ?_)
          · replace h := o_ff c8 h
            refine lv_iload_n hx hb d_Tx_firstChild_49 rfl (lv_at hl 1 rfl) ?_
            refine lv_iconst (v := (2:Int32)) hx hb d_Tx_firstChild_50 (by decide) ?_
            refine lv_iadd hx hb d_Tx_firstChild_51 ?_
            cases h
            exact o_ri (v := (x1 + (2:Int32))) C hP hS d_Tx_firstChild_52
          · replace h := o_tt c8 h
            refine lv_iload_n hx hb d_Tx_firstChild_43 rfl (lv_at hl 1 rfl) ?_
            refine lv_iconst (v := (1:Int32)) hx hb d_Tx_firstChild_44 (by decide) ?_
            refine lv_iadd hx hb d_Tx_firstChild_45 ?_
            refine lv_goto (tgt := 52) hx hb d_Tx_firstChild_46 (by decide) ?_
            cases h
            exact o_ri (v := (x1 + (1:Int32))) C hP hS d_Tx_firstChild_52
        · replace h := o_ff c6 h
          refine lv_iconst (v := (-1:Int32)) hx hb d_Tx_firstChild_31 (by decide) ?_
          cases h
          exact o_ri (v := (-1:Int32)) C hP hS d_Tx_firstChild_32
set_option maxHeartbeats 4000000 in
set_option maxRecDepth 100000 in
theorem c_Tx_size_0 {E : (Nat → Prop) → State → Heap → Prop} {D : va_G} {ad : Nat → Nat} {ca : Nat → ClassId} (hE : o_Ek E) (l : Launch) (x1 : Int32) (a0 : STx) (Sj : SSJ) (T1 : STx) (Rd : SRd) (Pg : SPg) (Pt : SPt) (Mk : SMk) (Lk : SLk) (Ck : SCk) (Jd : SJd) (Ld : SLd) (Pr : SPr) (rt : Nat) {r : Int32} (h : m_Tx_size x1 a0 = some r) : o_Cn E l D o_cls (o_tys ca) y_Tx_size cc_Tx_size rm_Tx_size [.ref (ad 1), .int x1] (o_cw ad ca rt Sj a0 T1 Rd Pg Pt Mk Lk Ck Jd Ld Pr) (o_cw ad ca rt Sj a0 T1 Rd Pg Pt Mk Lk Ck Jd Ld Pr) (some (.int r)) := by
  refine o_Cn_of (by decide) (Nat.le_of_ble_eq_true rfl) ?_
  intro p e s m below meth c A ls C hD hP hS hl
  have hDD : ∀ (rt : Nat) (Sj : SSJ) (T0 : STx) (T1 : STx) (Rd : SRd) (Pg : SPg) (Pt : SPt) (Mk : SMk) (Lk : SLk) (Ck : SCk) (Jd : SJd) (Ld : SLd) (Pr : SPr), va_D A (o_cw ad ca rt Sj T0 T1 Rd Pg Pt Mk Lk Ck Jd Ld Pr) := fun _ _ _ _ _ _ _ _ _ _ _ _ _ => o_D_map hD rfl
  have hl : lv_has ls 2 [(0, .ref (ad 1)), (1, .int x1)] := hl
  unfold m_Tx_size at h
  have C0 := C
  obtain ⟨hx, hb, -, -, -, hown, hts, hK, -, -⟩ := C0
  refine lv_iload_n hx hb d_Tx_size_0 rfl (lv_at hl 1 rfl) ?_
  refine lv_if_lt (tgt := 21) hx hb d_Tx_size_1 (by decide) (fun c1 => ?_) (fun c1 => ?_)
  · replace h := o_tt c1 h
    refine lv_iconst (v := (0:Int32)) hx hb d_Tx_size_21 (by decide) ?_
    cases h
    exact o_ri (v := (0:Int32)) C hP hS d_Tx_size_22
  · replace h := o_ff c1 h
    refine lv_iload_n hx hb d_Tx_size_4 rfl (lv_at hl 1 rfl) ?_
    refine lv_aload_n hx hb d_Tx_size_5 rfl (lv_at hl 0 rfl) ?_
    refine o_get (v := .int (Tx_total a0)) C in_Tx hP 1 cw_1 rfl 10 (by decide) k_1_56 rfl rfl d_Tx_size_6 ?_
    refine lv_icmp_ge (tgt := 21) hx hb d_Tx_size_9 (by decide) (fun c2 => ?_) (fun c2 => ?_)
    · replace h := o_tt c2 h
      refine lv_iconst (v := (0:Int32)) hx hb d_Tx_size_21 (by decide) ?_
      cases h
      exact o_ri (v := (0:Int32)) C hP hS d_Tx_size_22
    · replace h := o_ff c2 h
      refine lv_aload_n hx hb d_Tx_size_12 rfl (lv_at hl 0 rfl) ?_
      refine o_get (v := .ref (ad 4)) C in_Tx hP 1 cw_1 rfl 2 (by decide) k_1_48 rfl rfl d_Tx_size_13 ?_
      refine lv_iload_n hx hb d_Tx_size_16 rfl (lv_at hl 1 rfl) ?_
      obtain ⟨g3, h⟩ := o_gd_some h
      refine o_iald (f := (Tx_sizes a0)) C hP 4 2 cw_4 rfl g3 d_Tx_size_17 ?_
      refine lv_goto (tgt := 22) hx hb d_Tx_size_18 (by decide) ?_
      cases h
      exact o_ri (v := ((Tx_sizes a0) x1.toNatClampNeg)) C hP hS d_Tx_size_22
set_option maxHeartbeats 4000000 in
set_option maxRecDepth 100000 in
theorem c_Tx_size_1 {E : (Nat → Prop) → State → Heap → Prop} {D : va_G} {ad : Nat → Nat} {ca : Nat → ClassId} (hE : o_Ek E) (l : Launch) (x1 : Int32) (a0 : STx) (Sj : SSJ) (T0 : STx) (Rd : SRd) (Pg : SPg) (Pt : SPt) (Mk : SMk) (Lk : SLk) (Ck : SCk) (Jd : SJd) (Ld : SLd) (Pr : SPr) (rt : Nat) {r : Int32} (h : m_Tx_size x1 a0 = some r) : o_Cn E l D o_cls (o_tys ca) y_Tx_size cc_Tx_size rm_Tx_size [.ref (ad 12), .int x1] (o_cw ad ca rt Sj T0 a0 Rd Pg Pt Mk Lk Ck Jd Ld Pr) (o_cw ad ca rt Sj T0 a0 Rd Pg Pt Mk Lk Ck Jd Ld Pr) (some (.int r)) := by
  refine o_Cn_of (by decide) (Nat.le_of_ble_eq_true rfl) ?_
  intro p e s m below meth c A ls C hD hP hS hl
  have hDD : ∀ (rt : Nat) (Sj : SSJ) (T0 : STx) (T1 : STx) (Rd : SRd) (Pg : SPg) (Pt : SPt) (Mk : SMk) (Lk : SLk) (Ck : SCk) (Jd : SJd) (Ld : SLd) (Pr : SPr), va_D A (o_cw ad ca rt Sj T0 T1 Rd Pg Pt Mk Lk Ck Jd Ld Pr) := fun _ _ _ _ _ _ _ _ _ _ _ _ _ => o_D_map hD rfl
  have hl : lv_has ls 2 [(0, .ref (ad 12)), (1, .int x1)] := hl
  unfold m_Tx_size at h
  have C0 := C
  obtain ⟨hx, hb, -, -, -, hown, hts, hK, -, -⟩ := C0
  refine lv_iload_n hx hb d_Tx_size_0 rfl (lv_at hl 1 rfl) ?_
  refine lv_if_lt (tgt := 21) hx hb d_Tx_size_1 (by decide) (fun c1 => ?_) (fun c1 => ?_)
  · replace h := o_tt c1 h
    refine lv_iconst (v := (0:Int32)) hx hb d_Tx_size_21 (by decide) ?_
    cases h
    exact o_ri (v := (0:Int32)) C hP hS d_Tx_size_22
  · replace h := o_ff c1 h
    refine lv_iload_n hx hb d_Tx_size_4 rfl (lv_at hl 1 rfl) ?_
    refine lv_aload_n hx hb d_Tx_size_5 rfl (lv_at hl 0 rfl) ?_
    refine o_get (v := .int (Tx_total a0)) C in_Tx hP 12 cw_12 rfl 10 (by decide) k_1_56 rfl rfl d_Tx_size_6 ?_
    refine lv_icmp_ge (tgt := 21) hx hb d_Tx_size_9 (by decide) (fun c2 => ?_) (fun c2 => ?_)
    · replace h := o_tt c2 h
      refine lv_iconst (v := (0:Int32)) hx hb d_Tx_size_21 (by decide) ?_
      cases h
      exact o_ri (v := (0:Int32)) C hP hS d_Tx_size_22
    · replace h := o_ff c2 h
      refine lv_aload_n hx hb d_Tx_size_12 rfl (lv_at hl 0 rfl) ?_
      refine o_get (v := .ref (ad 15)) C in_Tx hP 12 cw_12 rfl 2 (by decide) k_1_48 rfl rfl d_Tx_size_13 ?_
      refine lv_iload_n hx hb d_Tx_size_16 rfl (lv_at hl 1 rfl) ?_
      obtain ⟨g3, h⟩ := o_gd_some h
      refine o_iald (f := (Tx_sizes a0)) C hP 15 12 cw_15 rfl g3 d_Tx_size_17 ?_
      refine lv_goto (tgt := 22) hx hb d_Tx_size_18 (by decide) ?_
      cases h
      exact o_ri (v := ((Tx_sizes a0) x1.toNatClampNeg)) C hP hS d_Tx_size_22
set_option maxHeartbeats 4000000 in
set_option maxRecDepth 100000 in
theorem w_Tx_nextChild_j22_0 {E : (Nat → Prop) → State → Heap → Prop} {p : Program} {l : Launch} {e : Env} {s : State} {m : MethodId} {args : Array Value} {below : List Frame} {meth : Method} {c : Code} {D : va_G} {ad : Nat → Nat} {ca : Nat → ClassId} {A : Nat → Prop} (hE : o_Ek E) (C : o_Cx E p s m args meth c D o_cls (o_tys ca) "SchemaJudge$Text" b_Tx_nextChild (some .int) 3 cc_Tx_nextChild A) (hDD : ∀ (rt : Nat) (Sj : SSJ) (T0 : STx) (T1 : STx) (Rd : SRd) (Pg : SPg) (Pt : SPt) (Mk : SMk) (Lk : SLk) (Ck : SCk) (Jd : SJd) (Ld : SLd) (Pr : SPr), va_D A (o_cw ad ca rt Sj T0 T1 Rd Pg Pt Mk Lk Ck Jd Ld Pr)) (x1 : Int32) (y0 : Int32) (a0 : STx) (Sj : SSJ) (T1 : STx) (Rd : SRd) (Pg : SPg) (Pt : SPt) (Mk : SMk) (Lk : SLk) (Ck : SCk) (Jd : SJd) (Ld : SLd) (Pr : SPr) (rt : Nat) {r : Int32} (h : m_Tx_nextChild_j22 x1 y0 a0 = some r) : o_At p l e rm_Tx_nextChild s m args below meth c (MQ below (o_Qx D o_cls (some (.int r)) (o_cw ad ca rt Sj a0 T1 Rd Pg Pt Mk Lk Ck Jd Ld Pr) A) args s 0 0 A) o_cls D A 3 22 [.int y0] (o_cw ad ca rt Sj a0 T1 Rd Pg Pt Mk Lk Ck Jd Ld Pr) [(0, .ref (ad 1)), (1, .int x1)] := by
  unfold m_Tx_nextChild_j22 at h
  intro H locs ls hP hS hl
  have C0 := C
  obtain ⟨hx, hb, -, -, -, hown, hts, hK, -, -⟩ := C0
  refine lv_istore_n (lv' := [(2, .int y0), (0, .ref (ad 1)), (1, .int x1)]) hx hb d_Tx_nextChild_22 rfl hl (by decide) rfl (fun ls hl => ?_)
  refine lv_iload_n hx hb d_Tx_nextChild_23 rfl (lv_at hl 0 rfl) ?_
  refine lv_if_lt (tgt := 52) hx hb d_Tx_nextChild_24 (by decide) (fun c2 => ?_) (fun c2 => ?_)
  · replace h := o_tt c2 h
    refine lv_iconst (v := (-1:Int32)) hx hb d_Tx_nextChild_52 (by decide) ?_
    cases h
    exact o_ri (v := (-1:Int32)) C hP hS d_Tx_nextChild_53
  · replace h := o_ff c2 h
    refine lv_iload_n hx hb d_Tx_nextChild_27 rfl (lv_at hl 0 rfl) ?_
    refine lv_aload_n hx hb d_Tx_nextChild_28 rfl (lv_at hl 1 rfl) ?_
    refine o_get (v := .int (Tx_total a0)) C in_Tx hP 1 cw_1 rfl 10 (by decide) k_1_56 rfl rfl d_Tx_nextChild_29 ?_
    refine lv_icmp_ge (tgt := 52) hx hb d_Tx_nextChild_32 (by decide) (fun c3 => ?_) (fun c3 => ?_)
    · replace h := o_tt c3 h
      refine lv_iconst (v := (-1:Int32)) hx hb d_Tx_nextChild_52 (by decide) ?_
      cases h
      exact o_ri (v := (-1:Int32)) C hP hS d_Tx_nextChild_53
    · replace h := o_ff c3 h
      refine lv_aload_n hx hb d_Tx_nextChild_35 rfl (lv_at hl 1 rfl) ?_
      refine o_get (v := .ref (ad 9)) C in_Tx hP 1 cw_1 rfl 7 (by decide) k_1_53 rfl rfl d_Tx_nextChild_36 ?_
      refine lv_iload_n hx hb d_Tx_nextChild_39 rfl (lv_at hl 2 rfl) ?_
      obtain ⟨g4, h⟩ := o_gd_some h
      refine o_iald (f := (Tx_slots a0)) C hP 9 7 cw_9 rfl g4 d_Tx_nextChild_40 ?_
      refine lv_iconst (v := (1:Int32)) hx hb d_Tx_nextChild_41 (by decide) ?_
      refine lv_iadd hx hb d_Tx_nextChild_42 ?_
      refine lv_aload_n hx hb d_Tx_nextChild_43 rfl (lv_at hl 1 rfl) ?_
      refine o_get (v := .ref (ad 4)) C in_Tx hP 1 cw_1 rfl 2 (by decide) k_1_48 rfl rfl d_Tx_nextChild_44 ?_
      refine lv_iload_n hx hb d_Tx_nextChild_47 rfl (lv_at hl 0 rfl) ?_
      obtain ⟨g5, h⟩ := o_gd_some h
      refine o_iald (f := (Tx_sizes a0)) C hP 4 2 cw_4 rfl g5 d_Tx_nextChild_48 ?_
      refine lv_icmp_lt (tgt := 54) hx hb d_Tx_nextChild_49 (by decide) (fun c6 => ?_) (fun c6 => ?_)
      · replace h := o_tt c6 h
        refine lv_aload_n hx hb d_Tx_nextChild_54 rfl (lv_at hl 1 rfl) ?_
        refine o_get (v := .ref (ad 2)) C in_Tx hP 1 cw_1 rfl 0 (by decide) k_1_46 rfl rfl d_Tx_nextChild_55 ?_
        refine lv_iload_n hx hb d_Tx_nextChild_58 rfl (lv_at hl 0 rfl) ?_
        obtain ⟨g7, h⟩ := o_gd_some h
        refine o_iald (f := (Tx_kinds a0)) C hP 2 0 cw_2 rfl g7 d_Tx_nextChild_59 ?_
        refine lv_iconst (v := (5:Int32)) hx hb d_Tx_nextChild_60 (by decide) ?_
        refine lv_icmp_ne (tgt := 73) hx hb d_Tx_nextChild_61 (by decide) (fun c8 => ?_) (fun c8 => ?_)
        · replace h := o_ff c8 h
          refine lv_aload_n hx hb d_Tx_nextChild_73 rfl (lv_at hl 1 rfl) ?_
          refine o_get (v := .ref (ad 8)) C in_Tx hP 1 cw_1 rfl 6 (by decide) k_1_52 rfl rfl d_Tx_nextChild_74 ?_
          refine lv_iload_n hx hb d_Tx_nextChild_77 rfl (lv_at hl 2 rfl) ?_
          obtain ⟨g9, h⟩ := o_gd_some h
          refine o_iald (f := (Tx_afters a0)) C hP 8 6 cw_8 rfl g9 d_Tx_nextChild_78 ?_
          refine lv_iconst (v := (1:Int32)) hx hb d_Tx_nextChild_79 (by decide) ?_
          refine lv_iadd hx hb d_Tx_nextChild_80 ?_
          cases h
          exact o_ri (v := (((Tx_afters a0) x1.toNatClampNeg) + (1:Int32))) C hP hS d_Tx_nextChild_81
        · replace h := o_tt c8 h
          refine lv_aload_n hx hb d_Tx_nextChild_64 rfl (lv_at hl 1 rfl) ?_
          refine o_get (v := .ref (ad 8)) C in_Tx hP 1 cw_1 rfl 6 (by decide) k_1_52 rfl rfl d_Tx_nextChild_65 ?_
          refine lv_iload_n hx hb d_Tx_nextChild_68 rfl (lv_at hl 2 rfl) ?_
          obtain ⟨g10, h⟩ := o_gd_some h
          refine o_iald (f := (Tx_afters a0)) C hP 8 6 cw_8 rfl g10 d_Tx_nextChild_69 ?_
          refine lv_goto (tgt := 81) hx hb d_Tx_nextChild_70 (by decide) ?_
          cases h
          exact o_ri (v := ((Tx_afters a0) x1.toNatClampNeg)) C hP hS d_Tx_nextChild_81
      · replace h := o_ff c6 h
        refine lv_iconst (v := (-1:Int32)) hx hb d_Tx_nextChild_52 (by decide) ?_
        cases h
        exact o_ri (v := (-1:Int32)) C hP hS d_Tx_nextChild_53
set_option maxHeartbeats 4000000 in
set_option maxRecDepth 100000 in
theorem c_Tx_nextChild_0 {E : (Nat → Prop) → State → Heap → Prop} {D : va_G} {ad : Nat → Nat} {ca : Nat → ClassId} (hE : o_Ek E) (l : Launch) (x1 : Int32) (a0 : STx) (Sj : SSJ) (T1 : STx) (Rd : SRd) (Pg : SPg) (Pt : SPt) (Mk : SMk) (Lk : SLk) (Ck : SCk) (Jd : SJd) (Ld : SLd) (Pr : SPr) (rt : Nat) {r : Int32} (h : m_Tx_nextChild x1 a0 = some r) : o_Cn E l D o_cls (o_tys ca) y_Tx_nextChild cc_Tx_nextChild rm_Tx_nextChild [.ref (ad 1), .int x1] (o_cw ad ca rt Sj a0 T1 Rd Pg Pt Mk Lk Ck Jd Ld Pr) (o_cw ad ca rt Sj a0 T1 Rd Pg Pt Mk Lk Ck Jd Ld Pr) (some (.int r)) := by
  refine o_Cn_of (by decide) (Nat.le_of_ble_eq_true rfl) ?_
  intro p e s m below meth c A ls C hD hP hS hl
  have hDD : ∀ (rt : Nat) (Sj : SSJ) (T0 : STx) (T1 : STx) (Rd : SRd) (Pg : SPg) (Pt : SPt) (Mk : SMk) (Lk : SLk) (Ck : SCk) (Jd : SJd) (Ld : SLd) (Pr : SPr), va_D A (o_cw ad ca rt Sj T0 T1 Rd Pg Pt Mk Lk Ck Jd Ld Pr) := fun _ _ _ _ _ _ _ _ _ _ _ _ _ => o_D_map hD rfl
  have hl : lv_has ls 3 [(0, .ref (ad 1)), (1, .int x1)] := hl
  unfold m_Tx_nextChild at h
  have C0 := C
  obtain ⟨hx, hb, -, -, -, hown, hts, hK, -, -⟩ := C0
  refine lv_iload_n hx hb d_Tx_nextChild_0 rfl (lv_at hl 1 rfl) ?_
  refine lv_if_lt (tgt := 21) hx hb d_Tx_nextChild_1 (by decide) (fun c1 => ?_) (fun c1 => ?_)
  · replace h := o_tt c1 h
    refine lv_iconst (v := (-1:Int32)) hx hb d_Tx_nextChild_21 (by decide) ?_
    exact w_Tx_nextChild_j22_0 hE C hDD x1 (-1:Int32) a0 Sj T1 Rd Pg Pt Mk Lk Ck Jd Ld Pr rt h _ _ _ hP hS (lv_sub hl [0, 1] rfl)
  · replace h := o_ff c1 h
    refine lv_iload_n hx hb d_Tx_nextChild_4 rfl (lv_at hl 1 rfl) ?_
    refine lv_aload_n hx hb d_Tx_nextChild_5 rfl (lv_at hl 0 rfl) ?_
    refine o_get (v := .int (Tx_total a0)) C in_Tx hP 1 cw_1 rfl 10 (by decide) k_1_56 rfl rfl d_Tx_nextChild_6 ?_
    refine lv_icmp_ge (tgt := 21) hx hb d_Tx_nextChild_9 (by decide) (fun c11 => ?_) (fun c11 => ?_)
    · replace h := o_tt c11 h
      refine lv_iconst (v := (-1:Int32)) hx hb d_Tx_nextChild_21 (by decide) ?_
      exact w_Tx_nextChild_j22_0 hE C hDD x1 (-1:Int32) a0 Sj T1 Rd Pg Pt Mk Lk Ck Jd Ld Pr rt h _ _ _ hP hS (lv_sub hl [0, 1] rfl)
    · replace h := o_ff c11 h
      refine lv_aload_n hx hb d_Tx_nextChild_12 rfl (lv_at hl 0 rfl) ?_
      refine o_get (v := .ref (ad 5)) C in_Tx hP 1 cw_1 rfl 3 (by decide) k_1_49 rfl rfl d_Tx_nextChild_13 ?_
      refine lv_iload_n hx hb d_Tx_nextChild_16 rfl (lv_at hl 1 rfl) ?_
      obtain ⟨g12, h⟩ := o_gd_some h
      refine o_iald (f := (Tx_parents a0)) C hP 5 3 cw_5 rfl g12 d_Tx_nextChild_17 ?_
      refine lv_goto (tgt := 22) hx hb d_Tx_nextChild_18 (by decide) ?_
      exact w_Tx_nextChild_j22_0 hE C hDD x1 ((Tx_parents a0) x1.toNatClampNeg) a0 Sj T1 Rd Pg Pt Mk Lk Ck Jd Ld Pr rt h _ _ _ hP hS (lv_sub hl [0, 1] rfl)
set_option maxHeartbeats 4000000 in
set_option maxRecDepth 100000 in
theorem w_Tx_nextChild_j22_1 {E : (Nat → Prop) → State → Heap → Prop} {p : Program} {l : Launch} {e : Env} {s : State} {m : MethodId} {args : Array Value} {below : List Frame} {meth : Method} {c : Code} {D : va_G} {ad : Nat → Nat} {ca : Nat → ClassId} {A : Nat → Prop} (hE : o_Ek E) (C : o_Cx E p s m args meth c D o_cls (o_tys ca) "SchemaJudge$Text" b_Tx_nextChild (some .int) 3 cc_Tx_nextChild A) (hDD : ∀ (rt : Nat) (Sj : SSJ) (T0 : STx) (T1 : STx) (Rd : SRd) (Pg : SPg) (Pt : SPt) (Mk : SMk) (Lk : SLk) (Ck : SCk) (Jd : SJd) (Ld : SLd) (Pr : SPr), va_D A (o_cw ad ca rt Sj T0 T1 Rd Pg Pt Mk Lk Ck Jd Ld Pr)) (x1 : Int32) (y0 : Int32) (a0 : STx) (Sj : SSJ) (T0 : STx) (Rd : SRd) (Pg : SPg) (Pt : SPt) (Mk : SMk) (Lk : SLk) (Ck : SCk) (Jd : SJd) (Ld : SLd) (Pr : SPr) (rt : Nat) {r : Int32} (h : m_Tx_nextChild_j22 x1 y0 a0 = some r) : o_At p l e rm_Tx_nextChild s m args below meth c (MQ below (o_Qx D o_cls (some (.int r)) (o_cw ad ca rt Sj T0 a0 Rd Pg Pt Mk Lk Ck Jd Ld Pr) A) args s 0 0 A) o_cls D A 3 22 [.int y0] (o_cw ad ca rt Sj T0 a0 Rd Pg Pt Mk Lk Ck Jd Ld Pr) [(0, .ref (ad 12)), (1, .int x1)] := by
  unfold m_Tx_nextChild_j22 at h
  intro H locs ls hP hS hl
  have C0 := C
  obtain ⟨hx, hb, -, -, -, hown, hts, hK, -, -⟩ := C0
  refine lv_istore_n (lv' := [(2, .int y0), (0, .ref (ad 12)), (1, .int x1)]) hx hb d_Tx_nextChild_22 rfl hl (by decide) rfl (fun ls hl => ?_)
  refine lv_iload_n hx hb d_Tx_nextChild_23 rfl (lv_at hl 0 rfl) ?_
  refine lv_if_lt (tgt := 52) hx hb d_Tx_nextChild_24 (by decide) (fun c2 => ?_) (fun c2 => ?_)
  · replace h := o_tt c2 h
    refine lv_iconst (v := (-1:Int32)) hx hb d_Tx_nextChild_52 (by decide) ?_
    cases h
    exact o_ri (v := (-1:Int32)) C hP hS d_Tx_nextChild_53
  · replace h := o_ff c2 h
    refine lv_iload_n hx hb d_Tx_nextChild_27 rfl (lv_at hl 0 rfl) ?_
    refine lv_aload_n hx hb d_Tx_nextChild_28 rfl (lv_at hl 1 rfl) ?_
    refine o_get (v := .int (Tx_total a0)) C in_Tx hP 12 cw_12 rfl 10 (by decide) k_1_56 rfl rfl d_Tx_nextChild_29 ?_
    refine lv_icmp_ge (tgt := 52) hx hb d_Tx_nextChild_32 (by decide) (fun c3 => ?_) (fun c3 => ?_)
    · replace h := o_tt c3 h
      refine lv_iconst (v := (-1:Int32)) hx hb d_Tx_nextChild_52 (by decide) ?_
      cases h
      exact o_ri (v := (-1:Int32)) C hP hS d_Tx_nextChild_53
    · replace h := o_ff c3 h
      refine lv_aload_n hx hb d_Tx_nextChild_35 rfl (lv_at hl 1 rfl) ?_
      refine o_get (v := .ref (ad 20)) C in_Tx hP 12 cw_12 rfl 7 (by decide) k_1_53 rfl rfl d_Tx_nextChild_36 ?_
      refine lv_iload_n hx hb d_Tx_nextChild_39 rfl (lv_at hl 2 rfl) ?_
      obtain ⟨g4, h⟩ := o_gd_some h
      refine o_iald (f := (Tx_slots a0)) C hP 20 17 cw_20 rfl g4 d_Tx_nextChild_40 ?_
      refine lv_iconst (v := (1:Int32)) hx hb d_Tx_nextChild_41 (by decide) ?_
      refine lv_iadd hx hb d_Tx_nextChild_42 ?_
      refine lv_aload_n hx hb d_Tx_nextChild_43 rfl (lv_at hl 1 rfl) ?_
      refine o_get (v := .ref (ad 15)) C in_Tx hP 12 cw_12 rfl 2 (by decide) k_1_48 rfl rfl d_Tx_nextChild_44 ?_
      refine lv_iload_n hx hb d_Tx_nextChild_47 rfl (lv_at hl 0 rfl) ?_
      obtain ⟨g5, h⟩ := o_gd_some h
      refine o_iald (f := (Tx_sizes a0)) C hP 15 12 cw_15 rfl g5 d_Tx_nextChild_48 ?_
      refine lv_icmp_lt (tgt := 54) hx hb d_Tx_nextChild_49 (by decide) (fun c6 => ?_) (fun c6 => ?_)
      · replace h := o_tt c6 h
        refine lv_aload_n hx hb d_Tx_nextChild_54 rfl (lv_at hl 1 rfl) ?_
        refine o_get (v := .ref (ad 13)) C in_Tx hP 12 cw_12 rfl 0 (by decide) k_1_46 rfl rfl d_Tx_nextChild_55 ?_
        refine lv_iload_n hx hb d_Tx_nextChild_58 rfl (lv_at hl 0 rfl) ?_
        obtain ⟨g7, h⟩ := o_gd_some h
        refine o_iald (f := (Tx_kinds a0)) C hP 13 10 cw_13 rfl g7 d_Tx_nextChild_59 ?_
        refine lv_iconst (v := (5:Int32)) hx hb d_Tx_nextChild_60 (by decide) ?_
        refine lv_icmp_ne (tgt := 73) hx hb d_Tx_nextChild_61 (by decide) (fun c8 => ?_) (fun c8 => ?_)
        · replace h := o_ff c8 h
          refine lv_aload_n hx hb d_Tx_nextChild_73 rfl (lv_at hl 1 rfl) ?_
          refine o_get (v := .ref (ad 19)) C in_Tx hP 12 cw_12 rfl 6 (by decide) k_1_52 rfl rfl d_Tx_nextChild_74 ?_
          refine lv_iload_n hx hb d_Tx_nextChild_77 rfl (lv_at hl 2 rfl) ?_
          obtain ⟨g9, h⟩ := o_gd_some h
          refine o_iald (f := (Tx_afters a0)) C hP 19 16 cw_19 rfl g9 d_Tx_nextChild_78 ?_
          refine lv_iconst (v := (1:Int32)) hx hb d_Tx_nextChild_79 (by decide) ?_
          refine lv_iadd hx hb d_Tx_nextChild_80 ?_
          cases h
          exact o_ri (v := (((Tx_afters a0) x1.toNatClampNeg) + (1:Int32))) C hP hS d_Tx_nextChild_81
        · replace h := o_tt c8 h
          refine lv_aload_n hx hb d_Tx_nextChild_64 rfl (lv_at hl 1 rfl) ?_
          refine o_get (v := .ref (ad 19)) C in_Tx hP 12 cw_12 rfl 6 (by decide) k_1_52 rfl rfl d_Tx_nextChild_65 ?_
          refine lv_iload_n hx hb d_Tx_nextChild_68 rfl (lv_at hl 2 rfl) ?_
          obtain ⟨g10, h⟩ := o_gd_some h
          refine o_iald (f := (Tx_afters a0)) C hP 19 16 cw_19 rfl g10 d_Tx_nextChild_69 ?_
          refine lv_goto (tgt := 81) hx hb d_Tx_nextChild_70 (by decide) ?_
          cases h
          exact o_ri (v := ((Tx_afters a0) x1.toNatClampNeg)) C hP hS d_Tx_nextChild_81
      · replace h := o_ff c6 h
        refine lv_iconst (v := (-1:Int32)) hx hb d_Tx_nextChild_52 (by decide) ?_
        cases h
        exact o_ri (v := (-1:Int32)) C hP hS d_Tx_nextChild_53
set_option maxHeartbeats 4000000 in
set_option maxRecDepth 100000 in
theorem c_Tx_nextChild_1 {E : (Nat → Prop) → State → Heap → Prop} {D : va_G} {ad : Nat → Nat} {ca : Nat → ClassId} (hE : o_Ek E) (l : Launch) (x1 : Int32) (a0 : STx) (Sj : SSJ) (T0 : STx) (Rd : SRd) (Pg : SPg) (Pt : SPt) (Mk : SMk) (Lk : SLk) (Ck : SCk) (Jd : SJd) (Ld : SLd) (Pr : SPr) (rt : Nat) {r : Int32} (h : m_Tx_nextChild x1 a0 = some r) : o_Cn E l D o_cls (o_tys ca) y_Tx_nextChild cc_Tx_nextChild rm_Tx_nextChild [.ref (ad 12), .int x1] (o_cw ad ca rt Sj T0 a0 Rd Pg Pt Mk Lk Ck Jd Ld Pr) (o_cw ad ca rt Sj T0 a0 Rd Pg Pt Mk Lk Ck Jd Ld Pr) (some (.int r)) := by
  refine o_Cn_of (by decide) (Nat.le_of_ble_eq_true rfl) ?_
  intro p e s m below meth c A ls C hD hP hS hl
  have hDD : ∀ (rt : Nat) (Sj : SSJ) (T0 : STx) (T1 : STx) (Rd : SRd) (Pg : SPg) (Pt : SPt) (Mk : SMk) (Lk : SLk) (Ck : SCk) (Jd : SJd) (Ld : SLd) (Pr : SPr), va_D A (o_cw ad ca rt Sj T0 T1 Rd Pg Pt Mk Lk Ck Jd Ld Pr) := fun _ _ _ _ _ _ _ _ _ _ _ _ _ => o_D_map hD rfl
  have hl : lv_has ls 3 [(0, .ref (ad 12)), (1, .int x1)] := hl
  unfold m_Tx_nextChild at h
  have C0 := C
  obtain ⟨hx, hb, -, -, -, hown, hts, hK, -, -⟩ := C0
  refine lv_iload_n hx hb d_Tx_nextChild_0 rfl (lv_at hl 1 rfl) ?_
  refine lv_if_lt (tgt := 21) hx hb d_Tx_nextChild_1 (by decide) (fun c1 => ?_) (fun c1 => ?_)
  · replace h := o_tt c1 h
    refine lv_iconst (v := (-1:Int32)) hx hb d_Tx_nextChild_21 (by decide) ?_
    exact w_Tx_nextChild_j22_1 hE C hDD x1 (-1:Int32) a0 Sj T0 Rd Pg Pt Mk Lk Ck Jd Ld Pr rt h _ _ _ hP hS (lv_sub hl [0, 1] rfl)
  · replace h := o_ff c1 h
    refine lv_iload_n hx hb d_Tx_nextChild_4 rfl (lv_at hl 1 rfl) ?_
    refine lv_aload_n hx hb d_Tx_nextChild_5 rfl (lv_at hl 0 rfl) ?_
    refine o_get (v := .int (Tx_total a0)) C in_Tx hP 12 cw_12 rfl 10 (by decide) k_1_56 rfl rfl d_Tx_nextChild_6 ?_
    refine lv_icmp_ge (tgt := 21) hx hb d_Tx_nextChild_9 (by decide) (fun c11 => ?_) (fun c11 => ?_)
    · replace h := o_tt c11 h
      refine lv_iconst (v := (-1:Int32)) hx hb d_Tx_nextChild_21 (by decide) ?_
      exact w_Tx_nextChild_j22_1 hE C hDD x1 (-1:Int32) a0 Sj T0 Rd Pg Pt Mk Lk Ck Jd Ld Pr rt h _ _ _ hP hS (lv_sub hl [0, 1] rfl)
    · replace h := o_ff c11 h
      refine lv_aload_n hx hb d_Tx_nextChild_12 rfl (lv_at hl 0 rfl) ?_
      refine o_get (v := .ref (ad 16)) C in_Tx hP 12 cw_12 rfl 3 (by decide) k_1_49 rfl rfl d_Tx_nextChild_13 ?_
      refine lv_iload_n hx hb d_Tx_nextChild_16 rfl (lv_at hl 1 rfl) ?_
      obtain ⟨g12, h⟩ := o_gd_some h
      refine o_iald (f := (Tx_parents a0)) C hP 16 13 cw_16 rfl g12 d_Tx_nextChild_17 ?_
      refine lv_goto (tgt := 22) hx hb d_Tx_nextChild_18 (by decide) ?_
      exact w_Tx_nextChild_j22_1 hE C hDD x1 ((Tx_parents a0) x1.toNatClampNeg) a0 Sj T0 Rd Pg Pt Mk Lk Ck Jd Ld Pr rt h _ _ _ hP hS (lv_sub hl [0, 1] rfl)
set_option maxHeartbeats 4000000 in
set_option maxRecDepth 100000 in
theorem c_Tx_place_0 {E : (Nat → Prop) → State → Heap → Prop} {D : va_G} {ad : Nat → Nat} {ca : Nat → ClassId} (hE : o_Ek E) (l : Launch) (x1 : Int32) (a0 : STx) (Sj : SSJ) (T1 : STx) (Rd : SRd) (Pg : SPg) (Pt : SPt) (Mk : SMk) (Lk : SLk) (Ck : SCk) (Jd : SJd) (Ld : SLd) (Pr : SPr) (rt : Nat) {r : Int32} (h : m_Tx_place x1 a0 = some r) : o_Cn E l D o_cls (o_tys ca) y_Tx_place cc_Tx_place rm_Tx_place [.ref (ad 1), .int x1] (o_cw ad ca rt Sj a0 T1 Rd Pg Pt Mk Lk Ck Jd Ld Pr) (o_cw ad ca rt Sj a0 T1 Rd Pg Pt Mk Lk Ck Jd Ld Pr) (some (.int r)) := by
  refine o_Cn_of (by decide) (Nat.le_of_ble_eq_true rfl) ?_
  intro p e s m below meth c A ls C hD hP hS hl
  have hDD : ∀ (rt : Nat) (Sj : SSJ) (T0 : STx) (T1 : STx) (Rd : SRd) (Pg : SPg) (Pt : SPt) (Mk : SMk) (Lk : SLk) (Ck : SCk) (Jd : SJd) (Ld : SLd) (Pr : SPr), va_D A (o_cw ad ca rt Sj T0 T1 Rd Pg Pt Mk Lk Ck Jd Ld Pr) := fun _ _ _ _ _ _ _ _ _ _ _ _ _ => o_D_map hD rfl
  have hl : lv_has ls 2 [(0, .ref (ad 1)), (1, .int x1)] := hl
  unfold m_Tx_place at h
  have C0 := C
  obtain ⟨hx, hb, -, -, -, hown, hts, hK, -, -⟩ := C0
  refine lv_iload_n hx hb d_Tx_place_0 rfl (lv_at hl 1 rfl) ?_
  refine lv_if_lt (tgt := 21) hx hb d_Tx_place_1 (by decide) (fun c1 => ?_) (fun c1 => ?_)
  · replace h := o_tt c1 h
    refine lv_iconst (v := (-1:Int32)) hx hb d_Tx_place_21 (by decide) ?_
    cases h
    exact o_ri (v := (-1:Int32)) C hP hS d_Tx_place_22
  · replace h := o_ff c1 h
    refine lv_iload_n hx hb d_Tx_place_4 rfl (lv_at hl 1 rfl) ?_
    refine lv_aload_n hx hb d_Tx_place_5 rfl (lv_at hl 0 rfl) ?_
    refine o_get (v := .int (Tx_total a0)) C in_Tx hP 1 cw_1 rfl 10 (by decide) k_1_56 rfl rfl d_Tx_place_6 ?_
    refine lv_icmp_ge (tgt := 21) hx hb d_Tx_place_9 (by decide) (fun c2 => ?_) (fun c2 => ?_)
    · replace h := o_tt c2 h
      refine lv_iconst (v := (-1:Int32)) hx hb d_Tx_place_21 (by decide) ?_
      cases h
      exact o_ri (v := (-1:Int32)) C hP hS d_Tx_place_22
    · replace h := o_ff c2 h
      refine lv_aload_n hx hb d_Tx_place_12 rfl (lv_at hl 0 rfl) ?_
      refine o_get (v := .ref (ad 3)) C in_Tx hP 1 cw_1 rfl 1 (by decide) k_1_47 rfl rfl d_Tx_place_13 ?_
      refine lv_iload_n hx hb d_Tx_place_16 rfl (lv_at hl 1 rfl) ?_
      obtain ⟨g3, h⟩ := o_gd_some h
      refine o_iald (f := (Tx_places a0)) C hP 3 1 cw_3 rfl g3 d_Tx_place_17 ?_
      refine lv_goto (tgt := 22) hx hb d_Tx_place_18 (by decide) ?_
      cases h
      exact o_ri (v := ((Tx_places a0) x1.toNatClampNeg)) C hP hS d_Tx_place_22
set_option maxHeartbeats 4000000 in
set_option maxRecDepth 100000 in
theorem c_Tx_place_1 {E : (Nat → Prop) → State → Heap → Prop} {D : va_G} {ad : Nat → Nat} {ca : Nat → ClassId} (hE : o_Ek E) (l : Launch) (x1 : Int32) (a0 : STx) (Sj : SSJ) (T0 : STx) (Rd : SRd) (Pg : SPg) (Pt : SPt) (Mk : SMk) (Lk : SLk) (Ck : SCk) (Jd : SJd) (Ld : SLd) (Pr : SPr) (rt : Nat) {r : Int32} (h : m_Tx_place x1 a0 = some r) : o_Cn E l D o_cls (o_tys ca) y_Tx_place cc_Tx_place rm_Tx_place [.ref (ad 12), .int x1] (o_cw ad ca rt Sj T0 a0 Rd Pg Pt Mk Lk Ck Jd Ld Pr) (o_cw ad ca rt Sj T0 a0 Rd Pg Pt Mk Lk Ck Jd Ld Pr) (some (.int r)) := by
  refine o_Cn_of (by decide) (Nat.le_of_ble_eq_true rfl) ?_
  intro p e s m below meth c A ls C hD hP hS hl
  have hDD : ∀ (rt : Nat) (Sj : SSJ) (T0 : STx) (T1 : STx) (Rd : SRd) (Pg : SPg) (Pt : SPt) (Mk : SMk) (Lk : SLk) (Ck : SCk) (Jd : SJd) (Ld : SLd) (Pr : SPr), va_D A (o_cw ad ca rt Sj T0 T1 Rd Pg Pt Mk Lk Ck Jd Ld Pr) := fun _ _ _ _ _ _ _ _ _ _ _ _ _ => o_D_map hD rfl
  have hl : lv_has ls 2 [(0, .ref (ad 12)), (1, .int x1)] := hl
  unfold m_Tx_place at h
  have C0 := C
  obtain ⟨hx, hb, -, -, -, hown, hts, hK, -, -⟩ := C0
  refine lv_iload_n hx hb d_Tx_place_0 rfl (lv_at hl 1 rfl) ?_
  refine lv_if_lt (tgt := 21) hx hb d_Tx_place_1 (by decide) (fun c1 => ?_) (fun c1 => ?_)
  · replace h := o_tt c1 h
    refine lv_iconst (v := (-1:Int32)) hx hb d_Tx_place_21 (by decide) ?_
    cases h
    exact o_ri (v := (-1:Int32)) C hP hS d_Tx_place_22
  · replace h := o_ff c1 h
    refine lv_iload_n hx hb d_Tx_place_4 rfl (lv_at hl 1 rfl) ?_
    refine lv_aload_n hx hb d_Tx_place_5 rfl (lv_at hl 0 rfl) ?_
    refine o_get (v := .int (Tx_total a0)) C in_Tx hP 12 cw_12 rfl 10 (by decide) k_1_56 rfl rfl d_Tx_place_6 ?_
    refine lv_icmp_ge (tgt := 21) hx hb d_Tx_place_9 (by decide) (fun c2 => ?_) (fun c2 => ?_)
    · replace h := o_tt c2 h
      refine lv_iconst (v := (-1:Int32)) hx hb d_Tx_place_21 (by decide) ?_
      cases h
      exact o_ri (v := (-1:Int32)) C hP hS d_Tx_place_22
    · replace h := o_ff c2 h
      refine lv_aload_n hx hb d_Tx_place_12 rfl (lv_at hl 0 rfl) ?_
      refine o_get (v := .ref (ad 14)) C in_Tx hP 12 cw_12 rfl 1 (by decide) k_1_47 rfl rfl d_Tx_place_13 ?_
      refine lv_iload_n hx hb d_Tx_place_16 rfl (lv_at hl 1 rfl) ?_
      obtain ⟨g3, h⟩ := o_gd_some h
      refine o_iald (f := (Tx_places a0)) C hP 14 11 cw_14 rfl g3 d_Tx_place_17 ?_
      refine lv_goto (tgt := 22) hx hb d_Tx_place_18 (by decide) ?_
      cases h
      exact o_ri (v := ((Tx_places a0) x1.toNatClampNeg)) C hP hS d_Tx_place_22
set_option maxHeartbeats 4000000 in
set_option maxRecDepth 100000 in
theorem c_Tx_total_0 {E : (Nat → Prop) → State → Heap → Prop} {D : va_G} {ad : Nat → Nat} {ca : Nat → ClassId} (hE : o_Ek E) (l : Launch)  (a0 : STx) (Sj : SSJ) (T1 : STx) (Rd : SRd) (Pg : SPg) (Pt : SPt) (Mk : SMk) (Lk : SLk) (Ck : SCk) (Jd : SJd) (Ld : SLd) (Pr : SPr) (rt : Nat) {r : Int32} (h : m_Tx_total a0 = some r) : o_Cn E l D o_cls (o_tys ca) y_Tx_total cc_Tx_total rm_Tx_total [.ref (ad 1)] (o_cw ad ca rt Sj a0 T1 Rd Pg Pt Mk Lk Ck Jd Ld Pr) (o_cw ad ca rt Sj a0 T1 Rd Pg Pt Mk Lk Ck Jd Ld Pr) (some (.int r)) := by
  refine o_Cn_of (by decide) (Nat.le_of_ble_eq_true rfl) ?_
  intro p e s m below meth c A ls C hD hP hS hl
  have hDD : ∀ (rt : Nat) (Sj : SSJ) (T0 : STx) (T1 : STx) (Rd : SRd) (Pg : SPg) (Pt : SPt) (Mk : SMk) (Lk : SLk) (Ck : SCk) (Jd : SJd) (Ld : SLd) (Pr : SPr), va_D A (o_cw ad ca rt Sj T0 T1 Rd Pg Pt Mk Lk Ck Jd Ld Pr) := fun _ _ _ _ _ _ _ _ _ _ _ _ _ => o_D_map hD rfl
  have hl : lv_has ls 1 [(0, .ref (ad 1))] := hl
  unfold m_Tx_total at h
  have C0 := C
  obtain ⟨hx, hb, -, -, -, hown, hts, hK, -, -⟩ := C0
  refine lv_aload_n hx hb d_Tx_total_0 rfl (lv_at hl 0 rfl) ?_
  refine o_get (v := .int (Tx_total a0)) C in_Tx hP 1 cw_1 rfl 10 (by decide) k_1_56 rfl rfl d_Tx_total_1 ?_
  cases h
  exact o_ri (v := (Tx_total a0)) C hP hS d_Tx_total_4
set_option maxHeartbeats 4000000 in
set_option maxRecDepth 100000 in
theorem c_Tx_total_1 {E : (Nat → Prop) → State → Heap → Prop} {D : va_G} {ad : Nat → Nat} {ca : Nat → ClassId} (hE : o_Ek E) (l : Launch)  (a0 : STx) (Sj : SSJ) (T0 : STx) (Rd : SRd) (Pg : SPg) (Pt : SPt) (Mk : SMk) (Lk : SLk) (Ck : SCk) (Jd : SJd) (Ld : SLd) (Pr : SPr) (rt : Nat) {r : Int32} (h : m_Tx_total a0 = some r) : o_Cn E l D o_cls (o_tys ca) y_Tx_total cc_Tx_total rm_Tx_total [.ref (ad 12)] (o_cw ad ca rt Sj T0 a0 Rd Pg Pt Mk Lk Ck Jd Ld Pr) (o_cw ad ca rt Sj T0 a0 Rd Pg Pt Mk Lk Ck Jd Ld Pr) (some (.int r)) := by
  refine o_Cn_of (by decide) (Nat.le_of_ble_eq_true rfl) ?_
  intro p e s m below meth c A ls C hD hP hS hl
  have hDD : ∀ (rt : Nat) (Sj : SSJ) (T0 : STx) (T1 : STx) (Rd : SRd) (Pg : SPg) (Pt : SPt) (Mk : SMk) (Lk : SLk) (Ck : SCk) (Jd : SJd) (Ld : SLd) (Pr : SPr), va_D A (o_cw ad ca rt Sj T0 T1 Rd Pg Pt Mk Lk Ck Jd Ld Pr) := fun _ _ _ _ _ _ _ _ _ _ _ _ _ => o_D_map hD rfl
  have hl : lv_has ls 1 [(0, .ref (ad 12))] := hl
  unfold m_Tx_total at h
  have C0 := C
  obtain ⟨hx, hb, -, -, -, hown, hts, hK, -, -⟩ := C0
  refine lv_aload_n hx hb d_Tx_total_0 rfl (lv_at hl 0 rfl) ?_
  refine o_get (v := .int (Tx_total a0)) C in_Tx hP 12 cw_12 rfl 10 (by decide) k_1_56 rfl rfl d_Tx_total_1 ?_
  cases h
  exact o_ri (v := (Tx_total a0)) C hP hS d_Tx_total_4
set_option maxHeartbeats 4000000 in
set_option maxRecDepth 100000 in
theorem c_Tx_kind_0 {E : (Nat → Prop) → State → Heap → Prop} {D : va_G} {ad : Nat → Nat} {ca : Nat → ClassId} (hE : o_Ek E) (l : Launch) (x1 : Int32) (a0 : STx) (Sj : SSJ) (T1 : STx) (Rd : SRd) (Pg : SPg) (Pt : SPt) (Mk : SMk) (Lk : SLk) (Ck : SCk) (Jd : SJd) (Ld : SLd) (Pr : SPr) (rt : Nat) {r : Int32} (h : m_Tx_kind x1 a0 = some r) : o_Cn E l D o_cls (o_tys ca) y_Tx_kind cc_Tx_kind rm_Tx_kind [.ref (ad 1), .int x1] (o_cw ad ca rt Sj a0 T1 Rd Pg Pt Mk Lk Ck Jd Ld Pr) (o_cw ad ca rt Sj a0 T1 Rd Pg Pt Mk Lk Ck Jd Ld Pr) (some (.int r)) := by
  refine o_Cn_of (by decide) (Nat.le_of_ble_eq_true rfl) ?_
  intro p e s m below meth c A ls C hD hP hS hl
  have hDD : ∀ (rt : Nat) (Sj : SSJ) (T0 : STx) (T1 : STx) (Rd : SRd) (Pg : SPg) (Pt : SPt) (Mk : SMk) (Lk : SLk) (Ck : SCk) (Jd : SJd) (Ld : SLd) (Pr : SPr), va_D A (o_cw ad ca rt Sj T0 T1 Rd Pg Pt Mk Lk Ck Jd Ld Pr) := fun _ _ _ _ _ _ _ _ _ _ _ _ _ => o_D_map hD rfl
  have hl : lv_has ls 2 [(0, .ref (ad 1)), (1, .int x1)] := hl
  unfold m_Tx_kind at h
  have C0 := C
  obtain ⟨hx, hb, -, -, -, hown, hts, hK, -, -⟩ := C0
  refine lv_iload_n hx hb d_Tx_kind_0 rfl (lv_at hl 1 rfl) ?_
  refine lv_if_lt (tgt := 21) hx hb d_Tx_kind_1 (by decide) (fun c1 => ?_) (fun c1 => ?_)
  · replace h := o_tt c1 h
    refine lv_iconst (v := (-1:Int32)) hx hb d_Tx_kind_21 (by decide) ?_
    cases h
    exact o_ri (v := (-1:Int32)) C hP hS d_Tx_kind_22
  · replace h := o_ff c1 h
    refine lv_iload_n hx hb d_Tx_kind_4 rfl (lv_at hl 1 rfl) ?_
    refine lv_aload_n hx hb d_Tx_kind_5 rfl (lv_at hl 0 rfl) ?_
    refine o_get (v := .int (Tx_total a0)) C in_Tx hP 1 cw_1 rfl 10 (by decide) k_1_56 rfl rfl d_Tx_kind_6 ?_
    refine lv_icmp_ge (tgt := 21) hx hb d_Tx_kind_9 (by decide) (fun c2 => ?_) (fun c2 => ?_)
    · replace h := o_tt c2 h
      refine lv_iconst (v := (-1:Int32)) hx hb d_Tx_kind_21 (by decide) ?_
      cases h
      exact o_ri (v := (-1:Int32)) C hP hS d_Tx_kind_22
    · replace h := o_ff c2 h
      refine lv_aload_n hx hb d_Tx_kind_12 rfl (lv_at hl 0 rfl) ?_
      refine o_get (v := .ref (ad 2)) C in_Tx hP 1 cw_1 rfl 0 (by decide) k_1_46 rfl rfl d_Tx_kind_13 ?_
      refine lv_iload_n hx hb d_Tx_kind_16 rfl (lv_at hl 1 rfl) ?_
      obtain ⟨g3, h⟩ := o_gd_some h
      refine o_iald (f := (Tx_kinds a0)) C hP 2 0 cw_2 rfl g3 d_Tx_kind_17 ?_
      refine lv_goto (tgt := 22) hx hb d_Tx_kind_18 (by decide) ?_
      cases h
      exact o_ri (v := ((Tx_kinds a0) x1.toNatClampNeg)) C hP hS d_Tx_kind_22
set_option maxHeartbeats 4000000 in
set_option maxRecDepth 100000 in
theorem c_Tx_kind_1 {E : (Nat → Prop) → State → Heap → Prop} {D : va_G} {ad : Nat → Nat} {ca : Nat → ClassId} (hE : o_Ek E) (l : Launch) (x1 : Int32) (a0 : STx) (Sj : SSJ) (T0 : STx) (Rd : SRd) (Pg : SPg) (Pt : SPt) (Mk : SMk) (Lk : SLk) (Ck : SCk) (Jd : SJd) (Ld : SLd) (Pr : SPr) (rt : Nat) {r : Int32} (h : m_Tx_kind x1 a0 = some r) : o_Cn E l D o_cls (o_tys ca) y_Tx_kind cc_Tx_kind rm_Tx_kind [.ref (ad 12), .int x1] (o_cw ad ca rt Sj T0 a0 Rd Pg Pt Mk Lk Ck Jd Ld Pr) (o_cw ad ca rt Sj T0 a0 Rd Pg Pt Mk Lk Ck Jd Ld Pr) (some (.int r)) := by
  refine o_Cn_of (by decide) (Nat.le_of_ble_eq_true rfl) ?_
  intro p e s m below meth c A ls C hD hP hS hl
  have hDD : ∀ (rt : Nat) (Sj : SSJ) (T0 : STx) (T1 : STx) (Rd : SRd) (Pg : SPg) (Pt : SPt) (Mk : SMk) (Lk : SLk) (Ck : SCk) (Jd : SJd) (Ld : SLd) (Pr : SPr), va_D A (o_cw ad ca rt Sj T0 T1 Rd Pg Pt Mk Lk Ck Jd Ld Pr) := fun _ _ _ _ _ _ _ _ _ _ _ _ _ => o_D_map hD rfl
  have hl : lv_has ls 2 [(0, .ref (ad 12)), (1, .int x1)] := hl
  unfold m_Tx_kind at h
  have C0 := C
  obtain ⟨hx, hb, -, -, -, hown, hts, hK, -, -⟩ := C0
  refine lv_iload_n hx hb d_Tx_kind_0 rfl (lv_at hl 1 rfl) ?_
  refine lv_if_lt (tgt := 21) hx hb d_Tx_kind_1 (by decide) (fun c1 => ?_) (fun c1 => ?_)
  · replace h := o_tt c1 h
    refine lv_iconst (v := (-1:Int32)) hx hb d_Tx_kind_21 (by decide) ?_
    cases h
    exact o_ri (v := (-1:Int32)) C hP hS d_Tx_kind_22
  · replace h := o_ff c1 h
    refine lv_iload_n hx hb d_Tx_kind_4 rfl (lv_at hl 1 rfl) ?_
    refine lv_aload_n hx hb d_Tx_kind_5 rfl (lv_at hl 0 rfl) ?_
    refine o_get (v := .int (Tx_total a0)) C in_Tx hP 12 cw_12 rfl 10 (by decide) k_1_56 rfl rfl d_Tx_kind_6 ?_
    refine lv_icmp_ge (tgt := 21) hx hb d_Tx_kind_9 (by decide) (fun c2 => ?_) (fun c2 => ?_)
    · replace h := o_tt c2 h
      refine lv_iconst (v := (-1:Int32)) hx hb d_Tx_kind_21 (by decide) ?_
      cases h
      exact o_ri (v := (-1:Int32)) C hP hS d_Tx_kind_22
    · replace h := o_ff c2 h
      refine lv_aload_n hx hb d_Tx_kind_12 rfl (lv_at hl 0 rfl) ?_
      refine o_get (v := .ref (ad 13)) C in_Tx hP 12 cw_12 rfl 0 (by decide) k_1_46 rfl rfl d_Tx_kind_13 ?_
      refine lv_iload_n hx hb d_Tx_kind_16 rfl (lv_at hl 1 rfl) ?_
      obtain ⟨g3, h⟩ := o_gd_some h
      refine o_iald (f := (Tx_kinds a0)) C hP 13 10 cw_13 rfl g3 d_Tx_kind_17 ?_
      refine lv_goto (tgt := 22) hx hb d_Tx_kind_18 (by decide) ?_
      cases h
      exact o_ri (v := ((Tx_kinds a0) x1.toNatClampNeg)) C hP hS d_Tx_kind_22
set_option maxHeartbeats 4000000 in
set_option maxRecDepth 100000 in
theorem c_Tx_cell_0 {E : (Nat → Prop) → State → Heap → Prop} {D : va_G} {ad : Nat → Nat} {ca : Nat → ClassId} (hE : o_Ek E) (l : Launch) (x1 : Int32) (x2 : Int32) (a0 : STx) (Sj : SSJ) (T1 : STx) (Rd : SRd) (Pg : SPg) (Pt : SPt) (Mk : SMk) (Lk : SLk) (Ck : SCk) (Jd : SJd) (Ld : SLd) (Pr : SPr) (rt : Nat) {r : Int32} (h : m_Tx_cell x1 x2 a0 = some r) : o_Cn E l D o_cls (o_tys ca) y_Tx_cell cc_Tx_cell rm_Tx_cell [.ref (ad 1), .int x1, .int x2] (o_cw ad ca rt Sj a0 T1 Rd Pg Pt Mk Lk Ck Jd Ld Pr) (o_cw ad ca rt Sj a0 T1 Rd Pg Pt Mk Lk Ck Jd Ld Pr) (some (.int r)) := by
  refine o_Cn_of (by decide) (Nat.le_of_ble_eq_true rfl) ?_
  intro p e s m below meth c A ls C hD hP hS hl
  have hDD : ∀ (rt : Nat) (Sj : SSJ) (T0 : STx) (T1 : STx) (Rd : SRd) (Pg : SPg) (Pt : SPt) (Mk : SMk) (Lk : SLk) (Ck : SCk) (Jd : SJd) (Ld : SLd) (Pr : SPr), va_D A (o_cw ad ca rt Sj T0 T1 Rd Pg Pt Mk Lk Ck Jd Ld Pr) := fun _ _ _ _ _ _ _ _ _ _ _ _ _ => o_D_map hD rfl
  have hl : lv_has ls 4 [(0, .ref (ad 1)), (1, .int x1), (2, .int x2)] := hl
  unfold m_Tx_cell at h
  have C0 := C
  obtain ⟨hx, hb, -, -, -, hown, hts, hK, -, -⟩ := C0
  refine lv_iload_n hx hb d_Tx_cell_0 rfl (lv_at hl 1 rfl) ?_
  refine lv_if_lt (tgt := 26) hx hb d_Tx_cell_1 (by decide) (fun c1 => ?_) (fun c1 => ?_)
  · replace h := o_tt c1 h
    refine lv_iconst (v := (0:Int32)) hx hb d_Tx_cell_26 (by decide) ?_
    cases h
    exact o_ri (v := (0:Int32)) C hP hS d_Tx_cell_27
  · replace h := o_ff c1 h
    refine lv_iload_n hx hb d_Tx_cell_4 rfl (lv_at hl 1 rfl) ?_
    refine lv_aload_n hx hb d_Tx_cell_5 rfl (lv_at hl 0 rfl) ?_
    refine o_get (v := .int (Tx_total a0)) C in_Tx hP 1 cw_1 rfl 10 (by decide) k_1_56 rfl rfl d_Tx_cell_6 ?_
    refine lv_icmp_ge (tgt := 26) hx hb d_Tx_cell_9 (by decide) (fun c2 => ?_) (fun c2 => ?_)
    · replace h := o_tt c2 h
      refine lv_iconst (v := (0:Int32)) hx hb d_Tx_cell_26 (by decide) ?_
      cases h
      exact o_ri (v := (0:Int32)) C hP hS d_Tx_cell_27
    · replace h := o_ff c2 h
      refine lv_iload_n hx hb d_Tx_cell_12 rfl (lv_at hl 2 rfl) ?_
      refine lv_if_lt (tgt := 26) hx hb d_Tx_cell_13 (by decide) (fun c3 => ?_) (fun c3 => ?_)
      · replace h := o_tt c3 h
        refine lv_iconst (v := (0:Int32)) hx hb d_Tx_cell_26 (by decide) ?_
        cases h
        exact o_ri (v := (0:Int32)) C hP hS d_Tx_cell_27
      · replace h := o_ff c3 h
        refine lv_iload_n hx hb d_Tx_cell_16 rfl (lv_at hl 2 rfl) ?_
        refine lv_aload_n hx hb d_Tx_cell_17 rfl (lv_at hl 0 rfl) ?_
        refine o_get (v := .ref (ad 4)) C in_Tx hP 1 cw_1 rfl 2 (by decide) k_1_48 rfl rfl d_Tx_cell_18 ?_
        refine lv_iload_n hx hb d_Tx_cell_21 rfl (lv_at hl 1 rfl) ?_
        obtain ⟨g4, h⟩ := o_gd_some h
        refine o_iald (f := (Tx_sizes a0)) C hP 4 2 cw_4 rfl g4 d_Tx_cell_22 ?_
        refine lv_icmp_lt (tgt := 28) hx hb d_Tx_cell_23 (by decide) (fun c5 => ?_) (fun c5 => ?_)
        · replace h := o_tt c5 h
          refine lv_aload_n hx hb d_Tx_cell_28 rfl (lv_at hl 0 rfl) ?_
          refine o_get (v := .ref (ad 7)) C in_Tx hP 1 cw_1 rfl 5 (by decide) k_1_51 rfl rfl d_Tx_cell_29 ?_
          refine lv_iload_n hx hb d_Tx_cell_32 rfl (lv_at hl 1 rfl) ?_
          obtain ⟨g6, h⟩ := o_gd_some h
          refine o_iald (f := (Tx_starts a0)) C hP 7 5 cw_7 rfl g6 d_Tx_cell_33 ?_
          refine lv_iload_n hx hb d_Tx_cell_34 rfl (lv_at hl 2 rfl) ?_
          refine lv_iadd hx hb d_Tx_cell_35 ?_
          refine lv_topi (fun x3_36 ex3_36 => ?_)
          replace h := o_nm_at ex3_36 h
          refine lv_istore_n (lv' := [(3, .int x3_36), (0, .ref (ad 1)), (1, .int x1), (2, .int x2)]) hx hb d_Tx_cell_36 rfl hl (by decide) rfl (fun ls hl => ?_)
          refine lv_iload_n hx hb d_Tx_cell_37 rfl (lv_at hl 0 rfl) ?_
          refine lv_if_lt (tgt := 59) hx hb d_Tx_cell_38 (by decide) (fun c7 => ?_) (fun c7 => ?_)
          · replace h := o_tt c7 h
            refine lv_iconst (v := (0:Int32)) hx hb d_Tx_cell_59 (by decide) ?_
            cases h
            exact o_ri (v := (0:Int32)) C hP hS d_Tx_cell_60
          · replace h := o_ff c7 h
            refine lv_iload_n hx hb d_Tx_cell_41 rfl (lv_at hl 0 rfl) ?_
            refine lv_aload_n hx hb d_Tx_cell_42 rfl (lv_at hl 1 rfl) ?_
            refine o_get (v := .ref (ad 11)) C in_Tx hP 1 cw_1 rfl 9 (by decide) k_1_55 rfl rfl d_Tx_cell_43 ?_
            refine va_alen (v := (8192:Int32)) hx hb hK hP 11 9 cw_11 rfl rfl d_Tx_cell_46 ?_
            refine lv_icmp_ge (tgt := 59) hx hb d_Tx_cell_47 (by decide) (fun c8 => ?_) (fun c8 => ?_)
            · replace h := o_tt c8 h
              refine lv_iconst (v := (0:Int32)) hx hb d_Tx_cell_59 (by decide) ?_
              cases h
              exact o_ri (v := (0:Int32)) C hP hS d_Tx_cell_60
            · replace h := o_ff c8 h
              refine lv_aload_n hx hb d_Tx_cell_50 rfl (lv_at hl 1 rfl) ?_
              refine o_get (v := .ref (ad 11)) C in_Tx hP 1 cw_1 rfl 9 (by decide) k_1_55 rfl rfl d_Tx_cell_51 ?_
              refine lv_iload_n hx hb d_Tx_cell_54 rfl (lv_at hl 0 rfl) ?_
              obtain ⟨g9, h⟩ := o_gd_some h
              refine o_iald (f := (Tx_cells a0)) C hP 11 9 cw_11 rfl g9 d_Tx_cell_55 ?_
              refine lv_goto (tgt := 60) hx hb d_Tx_cell_56 (by decide) ?_
              cases h
              exact o_ri (v := ((Tx_cells a0) x3_36.toNatClampNeg)) C hP hS d_Tx_cell_60
        · replace h := o_ff c5 h
          refine lv_iconst (v := (0:Int32)) hx hb d_Tx_cell_26 (by decide) ?_
          cases h
          exact o_ri (v := (0:Int32)) C hP hS d_Tx_cell_27
set_option maxHeartbeats 4000000 in
set_option maxRecDepth 100000 in
theorem c_Tx_cell_1 {E : (Nat → Prop) → State → Heap → Prop} {D : va_G} {ad : Nat → Nat} {ca : Nat → ClassId} (hE : o_Ek E) (l : Launch) (x1 : Int32) (x2 : Int32) (a0 : STx) (Sj : SSJ) (T0 : STx) (Rd : SRd) (Pg : SPg) (Pt : SPt) (Mk : SMk) (Lk : SLk) (Ck : SCk) (Jd : SJd) (Ld : SLd) (Pr : SPr) (rt : Nat) {r : Int32} (h : m_Tx_cell x1 x2 a0 = some r) : o_Cn E l D o_cls (o_tys ca) y_Tx_cell cc_Tx_cell rm_Tx_cell [.ref (ad 12), .int x1, .int x2] (o_cw ad ca rt Sj T0 a0 Rd Pg Pt Mk Lk Ck Jd Ld Pr) (o_cw ad ca rt Sj T0 a0 Rd Pg Pt Mk Lk Ck Jd Ld Pr) (some (.int r)) := by
  refine o_Cn_of (by decide) (Nat.le_of_ble_eq_true rfl) ?_
  intro p e s m below meth c A ls C hD hP hS hl
  have hDD : ∀ (rt : Nat) (Sj : SSJ) (T0 : STx) (T1 : STx) (Rd : SRd) (Pg : SPg) (Pt : SPt) (Mk : SMk) (Lk : SLk) (Ck : SCk) (Jd : SJd) (Ld : SLd) (Pr : SPr), va_D A (o_cw ad ca rt Sj T0 T1 Rd Pg Pt Mk Lk Ck Jd Ld Pr) := fun _ _ _ _ _ _ _ _ _ _ _ _ _ => o_D_map hD rfl
  have hl : lv_has ls 4 [(0, .ref (ad 12)), (1, .int x1), (2, .int x2)] := hl
  unfold m_Tx_cell at h
  have C0 := C
  obtain ⟨hx, hb, -, -, -, hown, hts, hK, -, -⟩ := C0
  refine lv_iload_n hx hb d_Tx_cell_0 rfl (lv_at hl 1 rfl) ?_
  refine lv_if_lt (tgt := 26) hx hb d_Tx_cell_1 (by decide) (fun c1 => ?_) (fun c1 => ?_)
  · replace h := o_tt c1 h
    refine lv_iconst (v := (0:Int32)) hx hb d_Tx_cell_26 (by decide) ?_
    cases h
    exact o_ri (v := (0:Int32)) C hP hS d_Tx_cell_27
  · replace h := o_ff c1 h
    refine lv_iload_n hx hb d_Tx_cell_4 rfl (lv_at hl 1 rfl) ?_
    refine lv_aload_n hx hb d_Tx_cell_5 rfl (lv_at hl 0 rfl) ?_
    refine o_get (v := .int (Tx_total a0)) C in_Tx hP 12 cw_12 rfl 10 (by decide) k_1_56 rfl rfl d_Tx_cell_6 ?_
    refine lv_icmp_ge (tgt := 26) hx hb d_Tx_cell_9 (by decide) (fun c2 => ?_) (fun c2 => ?_)
    · replace h := o_tt c2 h
      refine lv_iconst (v := (0:Int32)) hx hb d_Tx_cell_26 (by decide) ?_
      cases h
      exact o_ri (v := (0:Int32)) C hP hS d_Tx_cell_27
    · replace h := o_ff c2 h
      refine lv_iload_n hx hb d_Tx_cell_12 rfl (lv_at hl 2 rfl) ?_
      refine lv_if_lt (tgt := 26) hx hb d_Tx_cell_13 (by decide) (fun c3 => ?_) (fun c3 => ?_)
      · replace h := o_tt c3 h
        refine lv_iconst (v := (0:Int32)) hx hb d_Tx_cell_26 (by decide) ?_
        cases h
        exact o_ri (v := (0:Int32)) C hP hS d_Tx_cell_27
      · replace h := o_ff c3 h
        refine lv_iload_n hx hb d_Tx_cell_16 rfl (lv_at hl 2 rfl) ?_
        refine lv_aload_n hx hb d_Tx_cell_17 rfl (lv_at hl 0 rfl) ?_
        refine o_get (v := .ref (ad 15)) C in_Tx hP 12 cw_12 rfl 2 (by decide) k_1_48 rfl rfl d_Tx_cell_18 ?_
        refine lv_iload_n hx hb d_Tx_cell_21 rfl (lv_at hl 1 rfl) ?_
        obtain ⟨g4, h⟩ := o_gd_some h
        refine o_iald (f := (Tx_sizes a0)) C hP 15 12 cw_15 rfl g4 d_Tx_cell_22 ?_
        refine lv_icmp_lt (tgt := 28) hx hb d_Tx_cell_23 (by decide) (fun c5 => ?_) (fun c5 => ?_)
        · replace h := o_tt c5 h
          refine lv_aload_n hx hb d_Tx_cell_28 rfl (lv_at hl 0 rfl) ?_
          refine o_get (v := .ref (ad 18)) C in_Tx hP 12 cw_12 rfl 5 (by decide) k_1_51 rfl rfl d_Tx_cell_29 ?_
          refine lv_iload_n hx hb d_Tx_cell_32 rfl (lv_at hl 1 rfl) ?_
          obtain ⟨g6, h⟩ := o_gd_some h
          refine o_iald (f := (Tx_starts a0)) C hP 18 15 cw_18 rfl g6 d_Tx_cell_33 ?_
          refine lv_iload_n hx hb d_Tx_cell_34 rfl (lv_at hl 2 rfl) ?_
          refine lv_iadd hx hb d_Tx_cell_35 ?_
          refine lv_topi (fun x3_36 ex3_36 => ?_)
          replace h := o_nm_at ex3_36 h
          refine lv_istore_n (lv' := [(3, .int x3_36), (0, .ref (ad 12)), (1, .int x1), (2, .int x2)]) hx hb d_Tx_cell_36 rfl hl (by decide) rfl (fun ls hl => ?_)
          refine lv_iload_n hx hb d_Tx_cell_37 rfl (lv_at hl 0 rfl) ?_
          refine lv_if_lt (tgt := 59) hx hb d_Tx_cell_38 (by decide) (fun c7 => ?_) (fun c7 => ?_)
          · replace h := o_tt c7 h
            refine lv_iconst (v := (0:Int32)) hx hb d_Tx_cell_59 (by decide) ?_
            cases h
            exact o_ri (v := (0:Int32)) C hP hS d_Tx_cell_60
          · replace h := o_ff c7 h
            refine lv_iload_n hx hb d_Tx_cell_41 rfl (lv_at hl 0 rfl) ?_
            refine lv_aload_n hx hb d_Tx_cell_42 rfl (lv_at hl 1 rfl) ?_
            refine o_get (v := .ref (ad 22)) C in_Tx hP 12 cw_12 rfl 9 (by decide) k_1_55 rfl rfl d_Tx_cell_43 ?_
            refine va_alen (v := (8192:Int32)) hx hb hK hP 22 19 cw_22 rfl rfl d_Tx_cell_46 ?_
            refine lv_icmp_ge (tgt := 59) hx hb d_Tx_cell_47 (by decide) (fun c8 => ?_) (fun c8 => ?_)
            · replace h := o_tt c8 h
              refine lv_iconst (v := (0:Int32)) hx hb d_Tx_cell_59 (by decide) ?_
              cases h
              exact o_ri (v := (0:Int32)) C hP hS d_Tx_cell_60
            · replace h := o_ff c8 h
              refine lv_aload_n hx hb d_Tx_cell_50 rfl (lv_at hl 1 rfl) ?_
              refine o_get (v := .ref (ad 22)) C in_Tx hP 12 cw_12 rfl 9 (by decide) k_1_55 rfl rfl d_Tx_cell_51 ?_
              refine lv_iload_n hx hb d_Tx_cell_54 rfl (lv_at hl 0 rfl) ?_
              obtain ⟨g9, h⟩ := o_gd_some h
              refine o_iald (f := (Tx_cells a0)) C hP 22 19 cw_22 rfl g9 d_Tx_cell_55 ?_
              refine lv_goto (tgt := 60) hx hb d_Tx_cell_56 (by decide) ?_
              cases h
              exact o_ri (v := ((Tx_cells a0) x3_36.toNatClampNeg)) C hP hS d_Tx_cell_60
        · replace h := o_ff c5 h
          refine lv_iconst (v := (0:Int32)) hx hb d_Tx_cell_26 (by decide) ?_
          cases h
          exact o_ri (v := (0:Int32)) C hP hS d_Tx_cell_27
set_option maxHeartbeats 4000000 in
set_option maxRecDepth 100000 in
theorem c_Tx_sign_0 {E : (Nat → Prop) → State → Heap → Prop} {D : va_G} {ad : Nat → Nat} {ca : Nat → ClassId} (hE : o_Ek E) (l : Launch) (x1 : Int32) (a0 : STx) (Sj : SSJ) (T1 : STx) (Rd : SRd) (Pg : SPg) (Pt : SPt) (Mk : SMk) (Lk : SLk) (Ck : SCk) (Jd : SJd) (Ld : SLd) (Pr : SPr) (rt : Nat) {r : Int32} (h : m_Tx_sign x1 a0 = some r) : o_Cn E l D o_cls (o_tys ca) y_Tx_sign cc_Tx_sign rm_Tx_sign [.ref (ad 1), .int x1] (o_cw ad ca rt Sj a0 T1 Rd Pg Pt Mk Lk Ck Jd Ld Pr) (o_cw ad ca rt Sj a0 T1 Rd Pg Pt Mk Lk Ck Jd Ld Pr) (some (.int r)) := by
  refine o_Cn_of (by decide) (Nat.le_of_ble_eq_true rfl) ?_
  intro p e s m below meth c A ls C hD hP hS hl
  have hDD : ∀ (rt : Nat) (Sj : SSJ) (T0 : STx) (T1 : STx) (Rd : SRd) (Pg : SPg) (Pt : SPt) (Mk : SMk) (Lk : SLk) (Ck : SCk) (Jd : SJd) (Ld : SLd) (Pr : SPr), va_D A (o_cw ad ca rt Sj T0 T1 Rd Pg Pt Mk Lk Ck Jd Ld Pr) := fun _ _ _ _ _ _ _ _ _ _ _ _ _ => o_D_map hD rfl
  have hl : lv_has ls 2 [(0, .ref (ad 1)), (1, .int x1)] := hl
  unfold m_Tx_sign at h
  have C0 := C
  obtain ⟨hx, hb, -, -, -, hown, hts, hK, -, -⟩ := C0
  refine lv_iload_n hx hb d_Tx_sign_0 rfl (lv_at hl 1 rfl) ?_
  refine lv_if_lt (tgt := 21) hx hb d_Tx_sign_1 (by decide) (fun c1 => ?_) (fun c1 => ?_)
  · replace h := o_tt c1 h
    refine lv_iconst (v := (0:Int32)) hx hb d_Tx_sign_21 (by decide) ?_
    cases h
    exact o_ri (v := (0:Int32)) C hP hS d_Tx_sign_22
  · replace h := o_ff c1 h
    refine lv_iload_n hx hb d_Tx_sign_4 rfl (lv_at hl 1 rfl) ?_
    refine lv_aload_n hx hb d_Tx_sign_5 rfl (lv_at hl 0 rfl) ?_
    refine o_get (v := .int (Tx_total a0)) C in_Tx hP 1 cw_1 rfl 10 (by decide) k_1_56 rfl rfl d_Tx_sign_6 ?_
    refine lv_icmp_ge (tgt := 21) hx hb d_Tx_sign_9 (by decide) (fun c2 => ?_) (fun c2 => ?_)
    · replace h := o_tt c2 h
      refine lv_iconst (v := (0:Int32)) hx hb d_Tx_sign_21 (by decide) ?_
      cases h
      exact o_ri (v := (0:Int32)) C hP hS d_Tx_sign_22
    · replace h := o_ff c2 h
      refine lv_aload_n hx hb d_Tx_sign_12 rfl (lv_at hl 0 rfl) ?_
      refine o_get (v := .ref (ad 4)) C in_Tx hP 1 cw_1 rfl 2 (by decide) k_1_48 rfl rfl d_Tx_sign_13 ?_
      refine lv_iload_n hx hb d_Tx_sign_16 rfl (lv_at hl 1 rfl) ?_
      obtain ⟨g3, h⟩ := o_gd_some h
      refine o_iald (f := (Tx_sizes a0)) C hP 4 2 cw_4 rfl g3 d_Tx_sign_17 ?_
      refine lv_if_ne (tgt := 23) hx hb d_Tx_sign_18 (by decide) (fun c4 => ?_) (fun c4 => ?_)
      · replace h := o_ff c4 h
        refine lv_aload_n hx hb d_Tx_sign_23 rfl (lv_at hl 0 rfl) ?_
        refine o_get (v := .ref (ad 10)) C in_Tx hP 1 cw_1 rfl 8 (by decide) k_1_54 rfl rfl d_Tx_sign_24 ?_
        refine lv_iload_n hx hb d_Tx_sign_27 rfl (lv_at hl 1 rfl) ?_
        obtain ⟨g5, h⟩ := o_gd_some h
        refine o_zald (f := (Tx_negatives a0)) C hP 10 8 cw_10 rfl g5 d_Tx_sign_28 ?_
        refine lv_if_eq (tgt := 36) hx hb d_Tx_sign_29 (by decide) (fun c6 => ?_) (fun c6 => ?_)
        · replace h := o_tt c6 h
          refine lv_iconst (v := (1:Int32)) hx hb d_Tx_sign_36 (by decide) ?_
          cases h
          exact o_ri (v := (1:Int32)) C hP hS d_Tx_sign_37
        · replace h := o_ff c6 h
          refine lv_iconst (v := (-1:Int32)) hx hb d_Tx_sign_32 (by decide) ?_
          refine lv_goto (tgt := 37) hx hb d_Tx_sign_33 (by decide) ?_
          cases h
          exact o_ri (v := (-1:Int32)) C hP hS d_Tx_sign_37
      · replace h := o_tt c4 h
        refine lv_iconst (v := (0:Int32)) hx hb d_Tx_sign_21 (by decide) ?_
        cases h
        exact o_ri (v := (0:Int32)) C hP hS d_Tx_sign_22
set_option maxHeartbeats 4000000 in
set_option maxRecDepth 100000 in
theorem c_Tx_sign_1 {E : (Nat → Prop) → State → Heap → Prop} {D : va_G} {ad : Nat → Nat} {ca : Nat → ClassId} (hE : o_Ek E) (l : Launch) (x1 : Int32) (a0 : STx) (Sj : SSJ) (T0 : STx) (Rd : SRd) (Pg : SPg) (Pt : SPt) (Mk : SMk) (Lk : SLk) (Ck : SCk) (Jd : SJd) (Ld : SLd) (Pr : SPr) (rt : Nat) {r : Int32} (h : m_Tx_sign x1 a0 = some r) : o_Cn E l D o_cls (o_tys ca) y_Tx_sign cc_Tx_sign rm_Tx_sign [.ref (ad 12), .int x1] (o_cw ad ca rt Sj T0 a0 Rd Pg Pt Mk Lk Ck Jd Ld Pr) (o_cw ad ca rt Sj T0 a0 Rd Pg Pt Mk Lk Ck Jd Ld Pr) (some (.int r)) := by
  refine o_Cn_of (by decide) (Nat.le_of_ble_eq_true rfl) ?_
  intro p e s m below meth c A ls C hD hP hS hl
  have hDD : ∀ (rt : Nat) (Sj : SSJ) (T0 : STx) (T1 : STx) (Rd : SRd) (Pg : SPg) (Pt : SPt) (Mk : SMk) (Lk : SLk) (Ck : SCk) (Jd : SJd) (Ld : SLd) (Pr : SPr), va_D A (o_cw ad ca rt Sj T0 T1 Rd Pg Pt Mk Lk Ck Jd Ld Pr) := fun _ _ _ _ _ _ _ _ _ _ _ _ _ => o_D_map hD rfl
  have hl : lv_has ls 2 [(0, .ref (ad 12)), (1, .int x1)] := hl
  unfold m_Tx_sign at h
  have C0 := C
  obtain ⟨hx, hb, -, -, -, hown, hts, hK, -, -⟩ := C0
  refine lv_iload_n hx hb d_Tx_sign_0 rfl (lv_at hl 1 rfl) ?_
  refine lv_if_lt (tgt := 21) hx hb d_Tx_sign_1 (by decide) (fun c1 => ?_) (fun c1 => ?_)
  · replace h := o_tt c1 h
    refine lv_iconst (v := (0:Int32)) hx hb d_Tx_sign_21 (by decide) ?_
    cases h
    exact o_ri (v := (0:Int32)) C hP hS d_Tx_sign_22
  · replace h := o_ff c1 h
    refine lv_iload_n hx hb d_Tx_sign_4 rfl (lv_at hl 1 rfl) ?_
    refine lv_aload_n hx hb d_Tx_sign_5 rfl (lv_at hl 0 rfl) ?_
    refine o_get (v := .int (Tx_total a0)) C in_Tx hP 12 cw_12 rfl 10 (by decide) k_1_56 rfl rfl d_Tx_sign_6 ?_
    refine lv_icmp_ge (tgt := 21) hx hb d_Tx_sign_9 (by decide) (fun c2 => ?_) (fun c2 => ?_)
    · replace h := o_tt c2 h
      refine lv_iconst (v := (0:Int32)) hx hb d_Tx_sign_21 (by decide) ?_
      cases h
      exact o_ri (v := (0:Int32)) C hP hS d_Tx_sign_22
    · replace h := o_ff c2 h
      refine lv_aload_n hx hb d_Tx_sign_12 rfl (lv_at hl 0 rfl) ?_
      refine o_get (v := .ref (ad 15)) C in_Tx hP 12 cw_12 rfl 2 (by decide) k_1_48 rfl rfl d_Tx_sign_13 ?_
      refine lv_iload_n hx hb d_Tx_sign_16 rfl (lv_at hl 1 rfl) ?_
      obtain ⟨g3, h⟩ := o_gd_some h
      refine o_iald (f := (Tx_sizes a0)) C hP 15 12 cw_15 rfl g3 d_Tx_sign_17 ?_
      refine lv_if_ne (tgt := 23) hx hb d_Tx_sign_18 (by decide) (fun c4 => ?_) (fun c4 => ?_)
      · replace h := o_ff c4 h
        refine lv_aload_n hx hb d_Tx_sign_23 rfl (lv_at hl 0 rfl) ?_
        refine o_get (v := .ref (ad 21)) C in_Tx hP 12 cw_12 rfl 8 (by decide) k_1_54 rfl rfl d_Tx_sign_24 ?_
        refine lv_iload_n hx hb d_Tx_sign_27 rfl (lv_at hl 1 rfl) ?_
        obtain ⟨g5, h⟩ := o_gd_some h
        refine o_zald (f := (Tx_negatives a0)) C hP 21 18 cw_21 rfl g5 d_Tx_sign_28 ?_
        refine lv_if_eq (tgt := 36) hx hb d_Tx_sign_29 (by decide) (fun c6 => ?_) (fun c6 => ?_)
        · replace h := o_tt c6 h
          refine lv_iconst (v := (1:Int32)) hx hb d_Tx_sign_36 (by decide) ?_
          cases h
          exact o_ri (v := (1:Int32)) C hP hS d_Tx_sign_37
        · replace h := o_ff c6 h
          refine lv_iconst (v := (-1:Int32)) hx hb d_Tx_sign_32 (by decide) ?_
          refine lv_goto (tgt := 37) hx hb d_Tx_sign_33 (by decide) ?_
          cases h
          exact o_ri (v := (-1:Int32)) C hP hS d_Tx_sign_37
      · replace h := o_tt c4 h
        refine lv_iconst (v := (0:Int32)) hx hb d_Tx_sign_21 (by decide) ?_
        cases h
        exact o_ri (v := (0:Int32)) C hP hS d_Tx_sign_22
set_option maxHeartbeats 4000000 in
set_option maxRecDepth 100000 in
theorem c_Tx_exponent_0 {E : (Nat → Prop) → State → Heap → Prop} {D : va_G} {ad : Nat → Nat} {ca : Nat → ClassId} (hE : o_Ek E) (l : Launch) (x1 : Int32) (a0 : STx) (Sj : SSJ) (T1 : STx) (Rd : SRd) (Pg : SPg) (Pt : SPt) (Mk : SMk) (Lk : SLk) (Ck : SCk) (Jd : SJd) (Ld : SLd) (Pr : SPr) (rt : Nat) {r : Int32} (h : m_Tx_exponent x1 a0 = some r) : o_Cn E l D o_cls (o_tys ca) y_Tx_exponent cc_Tx_exponent rm_Tx_exponent [.ref (ad 1), .int x1] (o_cw ad ca rt Sj a0 T1 Rd Pg Pt Mk Lk Ck Jd Ld Pr) (o_cw ad ca rt Sj a0 T1 Rd Pg Pt Mk Lk Ck Jd Ld Pr) (some (.int r)) := by
  refine o_Cn_of (by decide) (Nat.le_of_ble_eq_true rfl) ?_
  intro p e s m below meth c A ls C hD hP hS hl
  have hDD : ∀ (rt : Nat) (Sj : SSJ) (T0 : STx) (T1 : STx) (Rd : SRd) (Pg : SPg) (Pt : SPt) (Mk : SMk) (Lk : SLk) (Ck : SCk) (Jd : SJd) (Ld : SLd) (Pr : SPr), va_D A (o_cw ad ca rt Sj T0 T1 Rd Pg Pt Mk Lk Ck Jd Ld Pr) := fun _ _ _ _ _ _ _ _ _ _ _ _ _ => o_D_map hD rfl
  have hl : lv_has ls 2 [(0, .ref (ad 1)), (1, .int x1)] := hl
  unfold m_Tx_exponent at h
  have C0 := C
  obtain ⟨hx, hb, -, -, -, hown, hts, hK, -, -⟩ := C0
  refine lv_iload_n hx hb d_Tx_exponent_0 rfl (lv_at hl 1 rfl) ?_
  refine lv_if_lt (tgt := 21) hx hb d_Tx_exponent_1 (by decide) (fun c1 => ?_) (fun c1 => ?_)
  · replace h := o_tt c1 h
    refine lv_iconst (v := (0:Int32)) hx hb d_Tx_exponent_21 (by decide) ?_
    cases h
    exact o_ri (v := (0:Int32)) C hP hS d_Tx_exponent_22
  · replace h := o_ff c1 h
    refine lv_iload_n hx hb d_Tx_exponent_4 rfl (lv_at hl 1 rfl) ?_
    refine lv_aload_n hx hb d_Tx_exponent_5 rfl (lv_at hl 0 rfl) ?_
    refine o_get (v := .int (Tx_total a0)) C in_Tx hP 1 cw_1 rfl 10 (by decide) k_1_56 rfl rfl d_Tx_exponent_6 ?_
    refine lv_icmp_ge (tgt := 21) hx hb d_Tx_exponent_9 (by decide) (fun c2 => ?_) (fun c2 => ?_)
    · replace h := o_tt c2 h
      refine lv_iconst (v := (0:Int32)) hx hb d_Tx_exponent_21 (by decide) ?_
      cases h
      exact o_ri (v := (0:Int32)) C hP hS d_Tx_exponent_22
    · replace h := o_ff c2 h
      refine lv_aload_n hx hb d_Tx_exponent_12 rfl (lv_at hl 0 rfl) ?_
      refine o_get (v := .ref (ad 6)) C in_Tx hP 1 cw_1 rfl 4 (by decide) k_1_50 rfl rfl d_Tx_exponent_13 ?_
      refine lv_iload_n hx hb d_Tx_exponent_16 rfl (lv_at hl 1 rfl) ?_
      obtain ⟨g3, h⟩ := o_gd_some h
      refine o_iald (f := (Tx_exponents a0)) C hP 6 4 cw_6 rfl g3 d_Tx_exponent_17 ?_
      refine lv_goto (tgt := 22) hx hb d_Tx_exponent_18 (by decide) ?_
      cases h
      exact o_ri (v := ((Tx_exponents a0) x1.toNatClampNeg)) C hP hS d_Tx_exponent_22
set_option maxHeartbeats 4000000 in
set_option maxRecDepth 100000 in
theorem c_Tx_exponent_1 {E : (Nat → Prop) → State → Heap → Prop} {D : va_G} {ad : Nat → Nat} {ca : Nat → ClassId} (hE : o_Ek E) (l : Launch) (x1 : Int32) (a0 : STx) (Sj : SSJ) (T0 : STx) (Rd : SRd) (Pg : SPg) (Pt : SPt) (Mk : SMk) (Lk : SLk) (Ck : SCk) (Jd : SJd) (Ld : SLd) (Pr : SPr) (rt : Nat) {r : Int32} (h : m_Tx_exponent x1 a0 = some r) : o_Cn E l D o_cls (o_tys ca) y_Tx_exponent cc_Tx_exponent rm_Tx_exponent [.ref (ad 12), .int x1] (o_cw ad ca rt Sj T0 a0 Rd Pg Pt Mk Lk Ck Jd Ld Pr) (o_cw ad ca rt Sj T0 a0 Rd Pg Pt Mk Lk Ck Jd Ld Pr) (some (.int r)) := by
  refine o_Cn_of (by decide) (Nat.le_of_ble_eq_true rfl) ?_
  intro p e s m below meth c A ls C hD hP hS hl
  have hDD : ∀ (rt : Nat) (Sj : SSJ) (T0 : STx) (T1 : STx) (Rd : SRd) (Pg : SPg) (Pt : SPt) (Mk : SMk) (Lk : SLk) (Ck : SCk) (Jd : SJd) (Ld : SLd) (Pr : SPr), va_D A (o_cw ad ca rt Sj T0 T1 Rd Pg Pt Mk Lk Ck Jd Ld Pr) := fun _ _ _ _ _ _ _ _ _ _ _ _ _ => o_D_map hD rfl
  have hl : lv_has ls 2 [(0, .ref (ad 12)), (1, .int x1)] := hl
  unfold m_Tx_exponent at h
  have C0 := C
  obtain ⟨hx, hb, -, -, -, hown, hts, hK, -, -⟩ := C0
  refine lv_iload_n hx hb d_Tx_exponent_0 rfl (lv_at hl 1 rfl) ?_
  refine lv_if_lt (tgt := 21) hx hb d_Tx_exponent_1 (by decide) (fun c1 => ?_) (fun c1 => ?_)
  · replace h := o_tt c1 h
    refine lv_iconst (v := (0:Int32)) hx hb d_Tx_exponent_21 (by decide) ?_
    cases h
    exact o_ri (v := (0:Int32)) C hP hS d_Tx_exponent_22
  · replace h := o_ff c1 h
    refine lv_iload_n hx hb d_Tx_exponent_4 rfl (lv_at hl 1 rfl) ?_
    refine lv_aload_n hx hb d_Tx_exponent_5 rfl (lv_at hl 0 rfl) ?_
    refine o_get (v := .int (Tx_total a0)) C in_Tx hP 12 cw_12 rfl 10 (by decide) k_1_56 rfl rfl d_Tx_exponent_6 ?_
    refine lv_icmp_ge (tgt := 21) hx hb d_Tx_exponent_9 (by decide) (fun c2 => ?_) (fun c2 => ?_)
    · replace h := o_tt c2 h
      refine lv_iconst (v := (0:Int32)) hx hb d_Tx_exponent_21 (by decide) ?_
      cases h
      exact o_ri (v := (0:Int32)) C hP hS d_Tx_exponent_22
    · replace h := o_ff c2 h
      refine lv_aload_n hx hb d_Tx_exponent_12 rfl (lv_at hl 0 rfl) ?_
      refine o_get (v := .ref (ad 17)) C in_Tx hP 12 cw_12 rfl 4 (by decide) k_1_50 rfl rfl d_Tx_exponent_13 ?_
      refine lv_iload_n hx hb d_Tx_exponent_16 rfl (lv_at hl 1 rfl) ?_
      obtain ⟨g3, h⟩ := o_gd_some h
      refine o_iald (f := (Tx_exponents a0)) C hP 17 14 cw_17 rfl g3 d_Tx_exponent_17 ?_
      refine lv_goto (tgt := 22) hx hb d_Tx_exponent_18 (by decide) ?_
      cases h
      exact o_ri (v := ((Tx_exponents a0) x1.toNatClampNeg)) C hP hS d_Tx_exponent_22
set_option maxHeartbeats 4000000 in
set_option maxRecDepth 100000 in
theorem w_Tx_wholeNumber_b47_0 {E : (Nat → Prop) → State → Heap → Prop} {p : Program} {l : Launch} {e : Env} {s : State} {m : MethodId} {args : Array Value} {below : List Frame} {meth : Method} {c : Code} {D : va_G} {ad : Nat → Nat} {ca : Nat → ClassId} {A : Nat → Prop} {Q : State → Prop} (hE : o_Ek E) (C : o_Cx E p s m args meth c D o_cls (o_tys ca) "SchemaJudge$Text" b_Tx_wholeNumber (some .int) 4 cc_Tx_wholeNumber A) (hDD : ∀ (rt : Nat) (Sj : SSJ) (T0 : STx) (T1 : STx) (Rd : SRd) (Pg : SPg) (Pt : SPt) (Mk : SMk) (Lk : SLk) (Ck : SCk) (Jd : SJd) (Ld : SLd) (Pr : SPr), va_D A (o_cw ad ca rt Sj T0 T1 Rd Pg Pt Mk Lk Ck Jd Ld Pr)) (n : Nat) (u47_x1 : Int32) (u47_a0 : STx) (u47_Sj : SSJ) (u47_T1 : STx) (u47_Rd : SRd) (u47_Pg : SPg) (u47_Pt : SPt) (u47_Mk : SMk) (u47_Lk : SLk) (u47_Ck : SCk) (u47_Jd : SJd) (u47_Ld : SLd) (u47_Pr : SPr) (u47_rt : Nat) (z : Int32 × Int32) (q : Nat × Int32 × Int32) (h : m_Tx_wholeNumber_b47 n u47_x1 u47_a0 z = some q) (h0 : q.1 = 0 → o_At p l e rm_Tx_wholeNumber s m args below meth c Q o_cls D A 4 47 [] (o_cw ad ca u47_rt u47_Sj u47_a0 u47_T1 u47_Rd u47_Pg u47_Pt u47_Mk u47_Lk u47_Ck u47_Jd u47_Ld u47_Pr) [(0, .ref (ad 1)), (1, .int u47_x1), (2, .int q.2.1), (3, .int q.2.2)]) (h1 : q.1 ≠ 0 → (o_At p l e rm_Tx_wholeNumber s m args below meth c Q o_cls D A 4 80 [] (o_cw ad ca u47_rt u47_Sj u47_a0 u47_T1 u47_Rd u47_Pg u47_Pt u47_Mk u47_Lk u47_Ck u47_Jd u47_Ld u47_Pr) [(2, .int q.2.1)])) : o_At p l e rm_Tx_wholeNumber s m args below meth c Q o_cls D A 4 47 [] (o_cw ad ca u47_rt u47_Sj u47_a0 u47_T1 u47_Rd u47_Pg u47_Pt u47_Mk u47_Lk u47_Ck u47_Jd u47_Ld u47_Pr) [(0, .ref (ad 1)), (1, .int u47_x1), (2, .int z.1), (3, .int z.2)] := by
  unfold m_Tx_wholeNumber_b47 at h
  intro H locs ls hP hS hl
  have C0 := C
  obtain ⟨hx, hb, -, -, -, hown, hts, hK, -, -⟩ := C0
  refine lv_iload_n hx hb d_Tx_wholeNumber_47 rfl (lv_at hl 3 rfl) ?_
  refine lv_aload_n hx hb d_Tx_wholeNumber_48 rfl (lv_at hl 0 rfl) ?_
  refine lv_iload_n hx hb d_Tx_wholeNumber_49 rfl (lv_at hl 1 rfl) ?_
  obtain ⟨q6, hq6, h⟩ := o_bd_some h
  refine o_V (st1 := [.int q6, .int z.2]) (w1 := (o_cw ad ca u47_rt u47_Sj u47_a0 u47_T1 u47_Rd u47_Pg u47_Pt u47_Mk u47_Lk u47_Ck u47_Jd u47_Ld u47_Pr)) hE C (c_Tx_size_0 hE l u47_x1 u47_a0 u47_Sj u47_T1 u47_Rd u47_Pg u47_Pt u47_Mk u47_Lk u47_Ck u47_Jd u47_Ld u47_Pr u47_rt hq6) hP (hDD _ _ _ _ _ _ _ _ _ _ _ _ _) hS hl.1 rfl cw_1 k_3_214 k_3_215 k_3_216 k_1_2 k_3_217 hv_Tx_size rfl rfl ⟨Nat.le_of_ble_eq_true rfl, Nat.le_of_ble_eq_true rfl⟩ rfl (Nat.le_of_ble_eq_true rfl) ⟨Nat.le_of_ble_eq_true rfl, Nat.le_of_ble_eq_true rfl⟩ rfl d_Tx_wholeNumber_50 (fun H locs hP hS => ?_)
  refine lv_aload_n hx hb d_Tx_wholeNumber_53 rfl (lv_at hl 0 rfl) ?_
  refine lv_iload_n hx hb d_Tx_wholeNumber_54 rfl (lv_at hl 1 rfl) ?_
  obtain ⟨q7, hq7, h⟩ := o_bd_some h
  refine o_V (st1 := [.int q7, .int q6, .int z.2]) (w1 := (o_cw ad ca u47_rt u47_Sj u47_a0 u47_T1 u47_Rd u47_Pg u47_Pt u47_Mk u47_Lk u47_Ck u47_Jd u47_Ld u47_Pr)) hE C (c_Tx_exponent_0 hE l u47_x1 u47_a0 u47_Sj u47_T1 u47_Rd u47_Pg u47_Pt u47_Mk u47_Lk u47_Ck u47_Jd u47_Ld u47_Pr u47_rt hq7) hP (hDD _ _ _ _ _ _ _ _ _ _ _ _ _) hS hl.1 rfl cw_1 k_5_66 k_5_67 k_5_68 k_1_2 k_5_69 hv_Tx_exponent rfl rfl ⟨Nat.le_of_ble_eq_true rfl, Nat.le_of_ble_eq_true rfl⟩ rfl (Nat.le_of_ble_eq_true rfl) ⟨Nat.le_of_ble_eq_true rfl, Nat.le_of_ble_eq_true rfl⟩ rfl d_Tx_wholeNumber_55 (fun H locs hP hS => ?_)
  refine lv_iadd hx hb d_Tx_wholeNumber_58 ?_
  refine lv_icmp_ge (tgt := 80) hx hb d_Tx_wholeNumber_59 (by decide) (fun c5 => ?_) (fun c5 => ?_)
  · replace h := o_tt c5 h
    cases h
    exact h1 (Nat.succ_ne_zero 0) _ _ _ hP hS (lv_sub hl [2] rfl)
  · replace h := o_ff c5 h
    refine lv_iload_n hx hb d_Tx_wholeNumber_62 rfl (lv_at hl 2 rfl) ?_
    refine lv_bipush (v := (10:Int32)) hx hb d_Tx_wholeNumber_63 (by decide) ?_
    refine lv_imul hx hb d_Tx_wholeNumber_65 ?_
    refine lv_aload_n hx hb d_Tx_wholeNumber_66 rfl (lv_at hl 0 rfl) ?_
    refine lv_iload_n hx hb d_Tx_wholeNumber_67 rfl (lv_at hl 1 rfl) ?_
    refine lv_iload_n hx hb d_Tx_wholeNumber_68 rfl (lv_at hl 3 rfl) ?_
    obtain ⟨q8, hq8, h⟩ := o_bd_some h
    refine o_V (st1 := [.int q8, .int (z.1 * (10:Int32))]) (w1 := (o_cw ad ca u47_rt u47_Sj u47_a0 u47_T1 u47_Rd u47_Pg u47_Pt u47_Mk u47_Lk u47_Ck u47_Jd u47_Ld u47_Pr)) hE C (c_Tx_cell_0 hE l u47_x1 z.2 u47_a0 u47_Sj u47_T1 u47_Rd u47_Pg u47_Pt u47_Mk u47_Lk u47_Ck u47_Jd u47_Ld u47_Pr u47_rt hq8) hP (hDD _ _ _ _ _ _ _ _ _ _ _ _ _) hS hl.1 rfl cw_1 k_5_70 k_4_117 k_4_118 k_1_2 k_4_119 hv_Tx_cell rfl rfl ⟨Nat.le_of_ble_eq_true rfl, Nat.le_of_ble_eq_true rfl⟩ rfl (Nat.le_of_ble_eq_true rfl) ⟨Nat.le_of_ble_eq_true rfl, Nat.le_of_ble_eq_true rfl⟩ rfl d_Tx_wholeNumber_69 (fun H locs hP hS => ?_)
    refine lv_iadd hx hb d_Tx_wholeNumber_72 ?_
    refine lv_topi (fun x2_73 ex2_73 => ?_)
    replace h := o_nm_at ex2_73 h
    refine lv_istore_n (lv' := [(2, .int x2_73), (0, .ref (ad 1)), (1, .int u47_x1), (3, .int z.2)]) hx hb d_Tx_wholeNumber_73 rfl hl (by decide) rfl (fun ls hl => ?_)
    obtain ⟨x3_74, ex3_74⟩ : ∃ y : Int32, y = z.2 + (1:Int32) := ⟨_, rfl⟩
    replace h := o_nm_at ex3_74 h
    refine lv_iinc (v := x3_74) (lv' := [(3, .int x3_74), (2, .int x2_73), (0, .ref (ad 1)), (1, .int u47_x1)]) hx hb d_Tx_wholeNumber_74 hl (k := 3) rfl (by rw [ex3_74]; rfl) (by decide) rfl (fun ls hl => ?_)
    refine lv_goto (tgt := 47) hx hb d_Tx_wholeNumber_77 (by decide) ?_
    cases h
    exact h0 rfl _ _ _ hP hS (lv_sub hl [2, 3, 1, 0] rfl)
set_option maxHeartbeats 4000000 in
set_option maxRecDepth 100000 in
theorem c_Tx_wholeNumber_0 {E : (Nat → Prop) → State → Heap → Prop} {D : va_G} {ad : Nat → Nat} {ca : Nat → ClassId} (hE : o_Ek E) (l : Launch) (n : Nat) (x1 : Int32) (a0 : STx) (Sj : SSJ) (T1 : STx) (Rd : SRd) (Pg : SPg) (Pt : SPt) (Mk : SMk) (Lk : SLk) (Ck : SCk) (Jd : SJd) (Ld : SLd) (Pr : SPr) (rt : Nat) {r : Int32} (h : m_Tx_wholeNumber n x1 a0 = some r) : o_Cn E l D o_cls (o_tys ca) y_Tx_wholeNumber cc_Tx_wholeNumber rm_Tx_wholeNumber [.ref (ad 1), .int x1] (o_cw ad ca rt Sj a0 T1 Rd Pg Pt Mk Lk Ck Jd Ld Pr) (o_cw ad ca rt Sj a0 T1 Rd Pg Pt Mk Lk Ck Jd Ld Pr) (some (.int r)) := by
  refine o_Cn_of (by decide) (Nat.le_of_ble_eq_true rfl) ?_
  intro p e s m below meth c A ls C hD hP hS hl
  have hDD : ∀ (rt : Nat) (Sj : SSJ) (T0 : STx) (T1 : STx) (Rd : SRd) (Pg : SPg) (Pt : SPt) (Mk : SMk) (Lk : SLk) (Ck : SCk) (Jd : SJd) (Ld : SLd) (Pr : SPr), va_D A (o_cw ad ca rt Sj T0 T1 Rd Pg Pt Mk Lk Ck Jd Ld Pr) := fun _ _ _ _ _ _ _ _ _ _ _ _ _ => o_D_map hD rfl
  have hl : lv_has ls 4 [(0, .ref (ad 1)), (1, .int x1)] := hl
  unfold m_Tx_wholeNumber at h
  have C0 := C
  obtain ⟨hx, hb, -, -, -, hown, hts, hK, -, -⟩ := C0
  refine lv_aload_n hx hb d_Tx_wholeNumber_0 rfl (lv_at hl 0 rfl) ?_
  refine lv_iload_n hx hb d_Tx_wholeNumber_1 rfl (lv_at hl 1 rfl) ?_
  obtain ⟨q1, hq1, h⟩ := o_bd_some h
  refine o_V (st1 := [.int q1]) (w1 := (o_cw ad ca rt Sj a0 T1 Rd Pg Pt Mk Lk Ck Jd Ld Pr)) hE C (c_Tx_kind_0 hE l x1 a0 Sj T1 Rd Pg Pt Mk Lk Ck Jd Ld Pr rt hq1) hP (hDD _ _ _ _ _ _ _ _ _ _ _ _ _) hS hl.1 rfl cw_1 k_5_64 k_4_50 k_4_51 k_1_2 k_4_52 hv_Tx_kind rfl rfl ⟨Nat.le_of_ble_eq_true rfl, Nat.le_of_ble_eq_true rfl⟩ rfl (Nat.le_of_ble_eq_true rfl) ⟨Nat.le_of_ble_eq_true rfl, Nat.le_of_ble_eq_true rfl⟩ rfl d_Tx_wholeNumber_2 (fun H locs hP hS => ?_)
  refine lv_iconst (v := (3:Int32)) hx hb d_Tx_wholeNumber_5 (by decide) ?_
  refine lv_icmp_ne (tgt := 41) hx hb d_Tx_wholeNumber_6 (by decide) (fun c1 => ?_) (fun c1 => ?_)
  · replace h := o_ff c1 h
    refine lv_iconst (v := (-1:Int32)) hx hb d_Tx_wholeNumber_41 (by decide) ?_
    cases h
    exact o_ri (v := (-1:Int32)) C hP hS d_Tx_wholeNumber_42
  · replace h := o_tt c1 h
    refine lv_aload_n hx hb d_Tx_wholeNumber_9 rfl (lv_at hl 0 rfl) ?_
    refine lv_iload_n hx hb d_Tx_wholeNumber_10 rfl (lv_at hl 1 rfl) ?_
    obtain ⟨q2, hq2, h⟩ := o_bd_some h
    refine o_V (st1 := [.int q2]) (w1 := (o_cw ad ca rt Sj a0 T1 Rd Pg Pt Mk Lk Ck Jd Ld Pr)) hE C (c_Tx_sign_0 hE l x1 a0 Sj T1 Rd Pg Pt Mk Lk Ck Jd Ld Pr rt hq2) hP (hDD _ _ _ _ _ _ _ _ _ _ _ _ _) hS hl.1 rfl cw_1 k_5_65 k_5_57 k_5_58 k_1_2 k_5_59 hv_Tx_sign rfl rfl ⟨Nat.le_of_ble_eq_true rfl, Nat.le_of_ble_eq_true rfl⟩ rfl (Nat.le_of_ble_eq_true rfl) ⟨Nat.le_of_ble_eq_true rfl, Nat.le_of_ble_eq_true rfl⟩ rfl d_Tx_wholeNumber_11 (fun H locs hP hS => ?_)
    refine lv_if_lt (tgt := 41) hx hb d_Tx_wholeNumber_14 (by decide) (fun c2 => ?_) (fun c2 => ?_)
    · replace h := o_tt c2 h
      refine lv_iconst (v := (-1:Int32)) hx hb d_Tx_wholeNumber_41 (by decide) ?_
      cases h
      exact o_ri (v := (-1:Int32)) C hP hS d_Tx_wholeNumber_42
    · replace h := o_ff c2 h
      refine lv_aload_n hx hb d_Tx_wholeNumber_17 rfl (lv_at hl 0 rfl) ?_
      refine lv_iload_n hx hb d_Tx_wholeNumber_18 rfl (lv_at hl 1 rfl) ?_
      obtain ⟨q3, hq3, h⟩ := o_bd_some h
      refine o_V (st1 := [.int q3]) (w1 := (o_cw ad ca rt Sj a0 T1 Rd Pg Pt Mk Lk Ck Jd Ld Pr)) hE C (c_Tx_exponent_0 hE l x1 a0 Sj T1 Rd Pg Pt Mk Lk Ck Jd Ld Pr rt hq3) hP (hDD _ _ _ _ _ _ _ _ _ _ _ _ _) hS hl.1 rfl cw_1 k_5_66 k_5_67 k_5_68 k_1_2 k_5_69 hv_Tx_exponent rfl rfl ⟨Nat.le_of_ble_eq_true rfl, Nat.le_of_ble_eq_true rfl⟩ rfl (Nat.le_of_ble_eq_true rfl) ⟨Nat.le_of_ble_eq_true rfl, Nat.le_of_ble_eq_true rfl⟩ rfl d_Tx_wholeNumber_19 (fun H locs hP hS => ?_)
      refine lv_if_lt (tgt := 41) hx hb d_Tx_wholeNumber_22 (by decide) (fun c3 => ?_) (fun c3 => ?_)
      · replace h := o_tt c3 h
        refine lv_iconst (v := (-1:Int32)) hx hb d_Tx_wholeNumber_41 (by decide) ?_
        cases h
        exact o_ri (v := (-1:Int32)) C hP hS d_Tx_wholeNumber_42
      · replace h := o_ff c3 h
        refine lv_aload_n hx hb d_Tx_wholeNumber_25 rfl (lv_at hl 0 rfl) ?_
        refine lv_iload_n hx hb d_Tx_wholeNumber_26 rfl (lv_at hl 1 rfl) ?_
        obtain ⟨q4, hq4, h⟩ := o_bd_some h
        refine o_V (st1 := [.int q4]) (w1 := (o_cw ad ca rt Sj a0 T1 Rd Pg Pt Mk Lk Ck Jd Ld Pr)) hE C (c_Tx_size_0 hE l x1 a0 Sj T1 Rd Pg Pt Mk Lk Ck Jd Ld Pr rt hq4) hP (hDD _ _ _ _ _ _ _ _ _ _ _ _ _) hS hl.1 rfl cw_1 k_3_214 k_3_215 k_3_216 k_1_2 k_3_217 hv_Tx_size rfl rfl ⟨Nat.le_of_ble_eq_true rfl, Nat.le_of_ble_eq_true rfl⟩ rfl (Nat.le_of_ble_eq_true rfl) ⟨Nat.le_of_ble_eq_true rfl, Nat.le_of_ble_eq_true rfl⟩ rfl d_Tx_wholeNumber_27 (fun H locs hP hS => ?_)
        refine lv_aload_n hx hb d_Tx_wholeNumber_30 rfl (lv_at hl 0 rfl) ?_
        refine lv_iload_n hx hb d_Tx_wholeNumber_31 rfl (lv_at hl 1 rfl) ?_
        obtain ⟨q5, hq5, h⟩ := o_bd_some h
        refine o_V (st1 := [.int q5, .int q4]) (w1 := (o_cw ad ca rt Sj a0 T1 Rd Pg Pt Mk Lk Ck Jd Ld Pr)) hE C (c_Tx_exponent_0 hE l x1 a0 Sj T1 Rd Pg Pt Mk Lk Ck Jd Ld Pr rt hq5) hP (hDD _ _ _ _ _ _ _ _ _ _ _ _ _) hS hl.1 rfl cw_1 k_5_66 k_5_67 k_5_68 k_1_2 k_5_69 hv_Tx_exponent rfl rfl ⟨Nat.le_of_ble_eq_true rfl, Nat.le_of_ble_eq_true rfl⟩ rfl (Nat.le_of_ble_eq_true rfl) ⟨Nat.le_of_ble_eq_true rfl, Nat.le_of_ble_eq_true rfl⟩ rfl d_Tx_wholeNumber_32 (fun H locs hP hS => ?_)
        refine lv_iadd hx hb d_Tx_wholeNumber_35 ?_
        refine lv_bipush (v := (7:Int32)) hx hb d_Tx_wholeNumber_36 (by decide) ?_
        refine lv_icmp_le (tgt := 43) hx hb d_Tx_wholeNumber_38 (by decide) (fun c4 => ?_) (fun c4 => ?_)
        · replace h := o_tt c4 h
          refine lv_iconst (v := (0:Int32)) hx hb d_Tx_wholeNumber_43 (by decide) ?_
          refine lv_istore_n (lv' := [(2, .int (0:Int32)), (0, .ref (ad 1)), (1, .int x1)]) hx hb d_Tx_wholeNumber_44 rfl hl (by decide) rfl (fun ls hl => ?_)
          refine lv_iconst (v := (0:Int32)) hx hb d_Tx_wholeNumber_45 (by decide) ?_
          refine lv_istore_n (lv' := [(3, .int (0:Int32)), (2, .int (0:Int32)), (0, .ref (ad 1)), (1, .int x1)]) hx hb d_Tx_wholeNumber_46 rfl hl (by decide) rfl (fun ls hl => ?_)
          obtain ⟨q9, hq9, h⟩ := o_bd_some h
          refine o_sim2 (AH := fun z => o_At p l e rm_Tx_wholeNumber s m _ below meth c _ o_cls D A 4 47 [] (o_cw ad ca rt Sj a0 T1 Rd Pg Pt Mk Lk Ck Jd Ld Pr) [(0, .ref (ad 1)), (1, .int x1), (2, .int z.1), (3, .int z.2)]) (AX := fun q => o_At p l e rm_Tx_wholeNumber s m _ below meth c _ o_cls D A 4 80 [] (o_cw ad ca rt Sj a0 T1 Rd Pg Pt Mk Lk Ck Jd Ld Pr) [(2, .int q.2.1)]) (fun z q h h0 h1 => w_Tx_wholeNumber_b47_0 hE C hDD n x1 a0 Sj T1 Rd Pg Pt Mk Lk Ck Jd Ld Pr rt z q h h0 h1) n _ q9 hq9 ?_ _ _ _ hP hS (lv_sub hl [2, 3, 1, 0] rfl)
          intro H locs ls hP hS hl
          refine lv_iload_n hx hb d_Tx_wholeNumber_80 rfl (lv_at hl 0 rfl) ?_
          refine lv_ldc (v := (1000000:Int32)) hx hb hown (hts _ k_5_71) d_Tx_wholeNumber_81 ?_
          refine lv_icmp_le (tgt := 90) hx hb d_Tx_wholeNumber_83 (by decide) (fun c6 => ?_) (fun c6 => ?_)
          · replace h := o_tt c6 h
            refine lv_iload_n hx hb d_Tx_wholeNumber_90 rfl (lv_at hl 0 rfl) ?_
            cases h
            exact o_ri (v := q9.2.1) C hP hS d_Tx_wholeNumber_91
          · replace h := o_ff c6 h
            refine lv_iconst (v := (-1:Int32)) hx hb d_Tx_wholeNumber_86 (by decide) ?_
            refine lv_goto (tgt := 91) hx hb d_Tx_wholeNumber_87 (by decide) ?_
            cases h
            exact o_ri (v := (-1:Int32)) C hP hS d_Tx_wholeNumber_91
        · replace h := o_ff c4 h
          refine lv_iconst (v := (-1:Int32)) hx hb d_Tx_wholeNumber_41 (by decide) ?_
          cases h
          exact o_ri (v := (-1:Int32)) C hP hS d_Tx_wholeNumber_42
set_option maxHeartbeats 4000000 in
set_option maxRecDepth 100000 in
theorem w_Tx_wholeNumber_b47_1 {E : (Nat → Prop) → State → Heap → Prop} {p : Program} {l : Launch} {e : Env} {s : State} {m : MethodId} {args : Array Value} {below : List Frame} {meth : Method} {c : Code} {D : va_G} {ad : Nat → Nat} {ca : Nat → ClassId} {A : Nat → Prop} {Q : State → Prop} (hE : o_Ek E) (C : o_Cx E p s m args meth c D o_cls (o_tys ca) "SchemaJudge$Text" b_Tx_wholeNumber (some .int) 4 cc_Tx_wholeNumber A) (hDD : ∀ (rt : Nat) (Sj : SSJ) (T0 : STx) (T1 : STx) (Rd : SRd) (Pg : SPg) (Pt : SPt) (Mk : SMk) (Lk : SLk) (Ck : SCk) (Jd : SJd) (Ld : SLd) (Pr : SPr), va_D A (o_cw ad ca rt Sj T0 T1 Rd Pg Pt Mk Lk Ck Jd Ld Pr)) (n : Nat) (u47_x1 : Int32) (u47_a0 : STx) (u47_Sj : SSJ) (u47_T0 : STx) (u47_Rd : SRd) (u47_Pg : SPg) (u47_Pt : SPt) (u47_Mk : SMk) (u47_Lk : SLk) (u47_Ck : SCk) (u47_Jd : SJd) (u47_Ld : SLd) (u47_Pr : SPr) (u47_rt : Nat) (z : Int32 × Int32) (q : Nat × Int32 × Int32) (h : m_Tx_wholeNumber_b47 n u47_x1 u47_a0 z = some q) (h0 : q.1 = 0 → o_At p l e rm_Tx_wholeNumber s m args below meth c Q o_cls D A 4 47 [] (o_cw ad ca u47_rt u47_Sj u47_T0 u47_a0 u47_Rd u47_Pg u47_Pt u47_Mk u47_Lk u47_Ck u47_Jd u47_Ld u47_Pr) [(0, .ref (ad 12)), (1, .int u47_x1), (2, .int q.2.1), (3, .int q.2.2)]) (h1 : q.1 ≠ 0 → (o_At p l e rm_Tx_wholeNumber s m args below meth c Q o_cls D A 4 80 [] (o_cw ad ca u47_rt u47_Sj u47_T0 u47_a0 u47_Rd u47_Pg u47_Pt u47_Mk u47_Lk u47_Ck u47_Jd u47_Ld u47_Pr) [(2, .int q.2.1)])) : o_At p l e rm_Tx_wholeNumber s m args below meth c Q o_cls D A 4 47 [] (o_cw ad ca u47_rt u47_Sj u47_T0 u47_a0 u47_Rd u47_Pg u47_Pt u47_Mk u47_Lk u47_Ck u47_Jd u47_Ld u47_Pr) [(0, .ref (ad 12)), (1, .int u47_x1), (2, .int z.1), (3, .int z.2)] := by
  unfold m_Tx_wholeNumber_b47 at h
  intro H locs ls hP hS hl
  have C0 := C
  obtain ⟨hx, hb, -, -, -, hown, hts, hK, -, -⟩ := C0
  refine lv_iload_n hx hb d_Tx_wholeNumber_47 rfl (lv_at hl 3 rfl) ?_
  refine lv_aload_n hx hb d_Tx_wholeNumber_48 rfl (lv_at hl 0 rfl) ?_
  refine lv_iload_n hx hb d_Tx_wholeNumber_49 rfl (lv_at hl 1 rfl) ?_
  obtain ⟨q6, hq6, h⟩ := o_bd_some h
  refine o_V (st1 := [.int q6, .int z.2]) (w1 := (o_cw ad ca u47_rt u47_Sj u47_T0 u47_a0 u47_Rd u47_Pg u47_Pt u47_Mk u47_Lk u47_Ck u47_Jd u47_Ld u47_Pr)) hE C (c_Tx_size_1 hE l u47_x1 u47_a0 u47_Sj u47_T0 u47_Rd u47_Pg u47_Pt u47_Mk u47_Lk u47_Ck u47_Jd u47_Ld u47_Pr u47_rt hq6) hP (hDD _ _ _ _ _ _ _ _ _ _ _ _ _) hS hl.1 rfl cw_12 k_3_214 k_3_215 k_3_216 k_1_2 k_3_217 hv_Tx_size rfl rfl ⟨Nat.le_of_ble_eq_true rfl, Nat.le_of_ble_eq_true rfl⟩ rfl (Nat.le_of_ble_eq_true rfl) ⟨Nat.le_of_ble_eq_true rfl, Nat.le_of_ble_eq_true rfl⟩ rfl d_Tx_wholeNumber_50 (fun H locs hP hS => ?_)
  refine lv_aload_n hx hb d_Tx_wholeNumber_53 rfl (lv_at hl 0 rfl) ?_
  refine lv_iload_n hx hb d_Tx_wholeNumber_54 rfl (lv_at hl 1 rfl) ?_
  obtain ⟨q7, hq7, h⟩ := o_bd_some h
  refine o_V (st1 := [.int q7, .int q6, .int z.2]) (w1 := (o_cw ad ca u47_rt u47_Sj u47_T0 u47_a0 u47_Rd u47_Pg u47_Pt u47_Mk u47_Lk u47_Ck u47_Jd u47_Ld u47_Pr)) hE C (c_Tx_exponent_1 hE l u47_x1 u47_a0 u47_Sj u47_T0 u47_Rd u47_Pg u47_Pt u47_Mk u47_Lk u47_Ck u47_Jd u47_Ld u47_Pr u47_rt hq7) hP (hDD _ _ _ _ _ _ _ _ _ _ _ _ _) hS hl.1 rfl cw_12 k_5_66 k_5_67 k_5_68 k_1_2 k_5_69 hv_Tx_exponent rfl rfl ⟨Nat.le_of_ble_eq_true rfl, Nat.le_of_ble_eq_true rfl⟩ rfl (Nat.le_of_ble_eq_true rfl) ⟨Nat.le_of_ble_eq_true rfl, Nat.le_of_ble_eq_true rfl⟩ rfl d_Tx_wholeNumber_55 (fun H locs hP hS => ?_)
  refine lv_iadd hx hb d_Tx_wholeNumber_58 ?_
  refine lv_icmp_ge (tgt := 80) hx hb d_Tx_wholeNumber_59 (by decide) (fun c5 => ?_) (fun c5 => ?_)
  · replace h := o_tt c5 h
    cases h
    exact h1 (Nat.succ_ne_zero 0) _ _ _ hP hS (lv_sub hl [2] rfl)
  · replace h := o_ff c5 h
    refine lv_iload_n hx hb d_Tx_wholeNumber_62 rfl (lv_at hl 2 rfl) ?_
    refine lv_bipush (v := (10:Int32)) hx hb d_Tx_wholeNumber_63 (by decide) ?_
    refine lv_imul hx hb d_Tx_wholeNumber_65 ?_
    refine lv_aload_n hx hb d_Tx_wholeNumber_66 rfl (lv_at hl 0 rfl) ?_
    refine lv_iload_n hx hb d_Tx_wholeNumber_67 rfl (lv_at hl 1 rfl) ?_
    refine lv_iload_n hx hb d_Tx_wholeNumber_68 rfl (lv_at hl 3 rfl) ?_
    obtain ⟨q8, hq8, h⟩ := o_bd_some h
    refine o_V (st1 := [.int q8, .int (z.1 * (10:Int32))]) (w1 := (o_cw ad ca u47_rt u47_Sj u47_T0 u47_a0 u47_Rd u47_Pg u47_Pt u47_Mk u47_Lk u47_Ck u47_Jd u47_Ld u47_Pr)) hE C (c_Tx_cell_1 hE l u47_x1 z.2 u47_a0 u47_Sj u47_T0 u47_Rd u47_Pg u47_Pt u47_Mk u47_Lk u47_Ck u47_Jd u47_Ld u47_Pr u47_rt hq8) hP (hDD _ _ _ _ _ _ _ _ _ _ _ _ _) hS hl.1 rfl cw_12 k_5_70 k_4_117 k_4_118 k_1_2 k_4_119 hv_Tx_cell rfl rfl ⟨Nat.le_of_ble_eq_true rfl, Nat.le_of_ble_eq_true rfl⟩ rfl (Nat.le_of_ble_eq_true rfl) ⟨Nat.le_of_ble_eq_true rfl, Nat.le_of_ble_eq_true rfl⟩ rfl d_Tx_wholeNumber_69 (fun H locs hP hS => ?_)
    refine lv_iadd hx hb d_Tx_wholeNumber_72 ?_
    refine lv_topi (fun x2_73 ex2_73 => ?_)
    replace h := o_nm_at ex2_73 h
    refine lv_istore_n (lv' := [(2, .int x2_73), (0, .ref (ad 12)), (1, .int u47_x1), (3, .int z.2)]) hx hb d_Tx_wholeNumber_73 rfl hl (by decide) rfl (fun ls hl => ?_)
    obtain ⟨x3_74, ex3_74⟩ : ∃ y : Int32, y = z.2 + (1:Int32) := ⟨_, rfl⟩
    replace h := o_nm_at ex3_74 h
    refine lv_iinc (v := x3_74) (lv' := [(3, .int x3_74), (2, .int x2_73), (0, .ref (ad 12)), (1, .int u47_x1)]) hx hb d_Tx_wholeNumber_74 hl (k := 3) rfl (by rw [ex3_74]; rfl) (by decide) rfl (fun ls hl => ?_)
    refine lv_goto (tgt := 47) hx hb d_Tx_wholeNumber_77 (by decide) ?_
    cases h
    exact h0 rfl _ _ _ hP hS (lv_sub hl [2, 3, 1, 0] rfl)
set_option maxHeartbeats 4000000 in
set_option maxRecDepth 100000 in
theorem c_Tx_wholeNumber_1 {E : (Nat → Prop) → State → Heap → Prop} {D : va_G} {ad : Nat → Nat} {ca : Nat → ClassId} (hE : o_Ek E) (l : Launch) (n : Nat) (x1 : Int32) (a0 : STx) (Sj : SSJ) (T0 : STx) (Rd : SRd) (Pg : SPg) (Pt : SPt) (Mk : SMk) (Lk : SLk) (Ck : SCk) (Jd : SJd) (Ld : SLd) (Pr : SPr) (rt : Nat) {r : Int32} (h : m_Tx_wholeNumber n x1 a0 = some r) : o_Cn E l D o_cls (o_tys ca) y_Tx_wholeNumber cc_Tx_wholeNumber rm_Tx_wholeNumber [.ref (ad 12), .int x1] (o_cw ad ca rt Sj T0 a0 Rd Pg Pt Mk Lk Ck Jd Ld Pr) (o_cw ad ca rt Sj T0 a0 Rd Pg Pt Mk Lk Ck Jd Ld Pr) (some (.int r)) := by
  refine o_Cn_of (by decide) (Nat.le_of_ble_eq_true rfl) ?_
  intro p e s m below meth c A ls C hD hP hS hl
  have hDD : ∀ (rt : Nat) (Sj : SSJ) (T0 : STx) (T1 : STx) (Rd : SRd) (Pg : SPg) (Pt : SPt) (Mk : SMk) (Lk : SLk) (Ck : SCk) (Jd : SJd) (Ld : SLd) (Pr : SPr), va_D A (o_cw ad ca rt Sj T0 T1 Rd Pg Pt Mk Lk Ck Jd Ld Pr) := fun _ _ _ _ _ _ _ _ _ _ _ _ _ => o_D_map hD rfl
  have hl : lv_has ls 4 [(0, .ref (ad 12)), (1, .int x1)] := hl
  unfold m_Tx_wholeNumber at h
  have C0 := C
  obtain ⟨hx, hb, -, -, -, hown, hts, hK, -, -⟩ := C0
  refine lv_aload_n hx hb d_Tx_wholeNumber_0 rfl (lv_at hl 0 rfl) ?_
  refine lv_iload_n hx hb d_Tx_wholeNumber_1 rfl (lv_at hl 1 rfl) ?_
  obtain ⟨q1, hq1, h⟩ := o_bd_some h
  refine o_V (st1 := [.int q1]) (w1 := (o_cw ad ca rt Sj T0 a0 Rd Pg Pt Mk Lk Ck Jd Ld Pr)) hE C (c_Tx_kind_1 hE l x1 a0 Sj T0 Rd Pg Pt Mk Lk Ck Jd Ld Pr rt hq1) hP (hDD _ _ _ _ _ _ _ _ _ _ _ _ _) hS hl.1 rfl cw_12 k_5_64 k_4_50 k_4_51 k_1_2 k_4_52 hv_Tx_kind rfl rfl ⟨Nat.le_of_ble_eq_true rfl, Nat.le_of_ble_eq_true rfl⟩ rfl (Nat.le_of_ble_eq_true rfl) ⟨Nat.le_of_ble_eq_true rfl, Nat.le_of_ble_eq_true rfl⟩ rfl d_Tx_wholeNumber_2 (fun H locs hP hS => ?_)
  refine lv_iconst (v := (3:Int32)) hx hb d_Tx_wholeNumber_5 (by decide) ?_
  refine lv_icmp_ne (tgt := 41) hx hb d_Tx_wholeNumber_6 (by decide) (fun c1 => ?_) (fun c1 => ?_)
  · replace h := o_ff c1 h
    refine lv_iconst (v := (-1:Int32)) hx hb d_Tx_wholeNumber_41 (by decide) ?_
    cases h
    exact o_ri (v := (-1:Int32)) C hP hS d_Tx_wholeNumber_42
  · replace h := o_tt c1 h
    refine lv_aload_n hx hb d_Tx_wholeNumber_9 rfl (lv_at hl 0 rfl) ?_
    refine lv_iload_n hx hb d_Tx_wholeNumber_10 rfl (lv_at hl 1 rfl) ?_
    obtain ⟨q2, hq2, h⟩ := o_bd_some h
    refine o_V (st1 := [.int q2]) (w1 := (o_cw ad ca rt Sj T0 a0 Rd Pg Pt Mk Lk Ck Jd Ld Pr)) hE C (c_Tx_sign_1 hE l x1 a0 Sj T0 Rd Pg Pt Mk Lk Ck Jd Ld Pr rt hq2) hP (hDD _ _ _ _ _ _ _ _ _ _ _ _ _) hS hl.1 rfl cw_12 k_5_65 k_5_57 k_5_58 k_1_2 k_5_59 hv_Tx_sign rfl rfl ⟨Nat.le_of_ble_eq_true rfl, Nat.le_of_ble_eq_true rfl⟩ rfl (Nat.le_of_ble_eq_true rfl) ⟨Nat.le_of_ble_eq_true rfl, Nat.le_of_ble_eq_true rfl⟩ rfl d_Tx_wholeNumber_11 (fun H locs hP hS => ?_)
    refine lv_if_lt (tgt := 41) hx hb d_Tx_wholeNumber_14 (by decide) (fun c2 => ?_) (fun c2 => ?_)
    · replace h := o_tt c2 h
      refine lv_iconst (v := (-1:Int32)) hx hb d_Tx_wholeNumber_41 (by decide) ?_
      cases h
      exact o_ri (v := (-1:Int32)) C hP hS d_Tx_wholeNumber_42
    · replace h := o_ff c2 h
      refine lv_aload_n hx hb d_Tx_wholeNumber_17 rfl (lv_at hl 0 rfl) ?_
      refine lv_iload_n hx hb d_Tx_wholeNumber_18 rfl (lv_at hl 1 rfl) ?_
      obtain ⟨q3, hq3, h⟩ := o_bd_some h
      refine o_V (st1 := [.int q3]) (w1 := (o_cw ad ca rt Sj T0 a0 Rd Pg Pt Mk Lk Ck Jd Ld Pr)) hE C (c_Tx_exponent_1 hE l x1 a0 Sj T0 Rd Pg Pt Mk Lk Ck Jd Ld Pr rt hq3) hP (hDD _ _ _ _ _ _ _ _ _ _ _ _ _) hS hl.1 rfl cw_12 k_5_66 k_5_67 k_5_68 k_1_2 k_5_69 hv_Tx_exponent rfl rfl ⟨Nat.le_of_ble_eq_true rfl, Nat.le_of_ble_eq_true rfl⟩ rfl (Nat.le_of_ble_eq_true rfl) ⟨Nat.le_of_ble_eq_true rfl, Nat.le_of_ble_eq_true rfl⟩ rfl d_Tx_wholeNumber_19 (fun H locs hP hS => ?_)
      refine lv_if_lt (tgt := 41) hx hb d_Tx_wholeNumber_22 (by decide) (fun c3 => ?_) (fun c3 => ?_)
      · replace h := o_tt c3 h
        refine lv_iconst (v := (-1:Int32)) hx hb d_Tx_wholeNumber_41 (by decide) ?_
        cases h
        exact o_ri (v := (-1:Int32)) C hP hS d_Tx_wholeNumber_42
      · replace h := o_ff c3 h
        refine lv_aload_n hx hb d_Tx_wholeNumber_25 rfl (lv_at hl 0 rfl) ?_
        refine lv_iload_n hx hb d_Tx_wholeNumber_26 rfl (lv_at hl 1 rfl) ?_
        obtain ⟨q4, hq4, h⟩ := o_bd_some h
        refine o_V (st1 := [.int q4]) (w1 := (o_cw ad ca rt Sj T0 a0 Rd Pg Pt Mk Lk Ck Jd Ld Pr)) hE C (c_Tx_size_1 hE l x1 a0 Sj T0 Rd Pg Pt Mk Lk Ck Jd Ld Pr rt hq4) hP (hDD _ _ _ _ _ _ _ _ _ _ _ _ _) hS hl.1 rfl cw_12 k_3_214 k_3_215 k_3_216 k_1_2 k_3_217 hv_Tx_size rfl rfl ⟨Nat.le_of_ble_eq_true rfl, Nat.le_of_ble_eq_true rfl⟩ rfl (Nat.le_of_ble_eq_true rfl) ⟨Nat.le_of_ble_eq_true rfl, Nat.le_of_ble_eq_true rfl⟩ rfl d_Tx_wholeNumber_27 (fun H locs hP hS => ?_)
        refine lv_aload_n hx hb d_Tx_wholeNumber_30 rfl (lv_at hl 0 rfl) ?_
        refine lv_iload_n hx hb d_Tx_wholeNumber_31 rfl (lv_at hl 1 rfl) ?_
        obtain ⟨q5, hq5, h⟩ := o_bd_some h
        refine o_V (st1 := [.int q5, .int q4]) (w1 := (o_cw ad ca rt Sj T0 a0 Rd Pg Pt Mk Lk Ck Jd Ld Pr)) hE C (c_Tx_exponent_1 hE l x1 a0 Sj T0 Rd Pg Pt Mk Lk Ck Jd Ld Pr rt hq5) hP (hDD _ _ _ _ _ _ _ _ _ _ _ _ _) hS hl.1 rfl cw_12 k_5_66 k_5_67 k_5_68 k_1_2 k_5_69 hv_Tx_exponent rfl rfl ⟨Nat.le_of_ble_eq_true rfl, Nat.le_of_ble_eq_true rfl⟩ rfl (Nat.le_of_ble_eq_true rfl) ⟨Nat.le_of_ble_eq_true rfl, Nat.le_of_ble_eq_true rfl⟩ rfl d_Tx_wholeNumber_32 (fun H locs hP hS => ?_)
        refine lv_iadd hx hb d_Tx_wholeNumber_35 ?_
        refine lv_bipush (v := (7:Int32)) hx hb d_Tx_wholeNumber_36 (by decide) ?_
        refine lv_icmp_le (tgt := 43) hx hb d_Tx_wholeNumber_38 (by decide) (fun c4 => ?_) (fun c4 => ?_)
        · replace h := o_tt c4 h
          refine lv_iconst (v := (0:Int32)) hx hb d_Tx_wholeNumber_43 (by decide) ?_
          refine lv_istore_n (lv' := [(2, .int (0:Int32)), (0, .ref (ad 12)), (1, .int x1)]) hx hb d_Tx_wholeNumber_44 rfl hl (by decide) rfl (fun ls hl => ?_)
          refine lv_iconst (v := (0:Int32)) hx hb d_Tx_wholeNumber_45 (by decide) ?_
          refine lv_istore_n (lv' := [(3, .int (0:Int32)), (2, .int (0:Int32)), (0, .ref (ad 12)), (1, .int x1)]) hx hb d_Tx_wholeNumber_46 rfl hl (by decide) rfl (fun ls hl => ?_)
          obtain ⟨q9, hq9, h⟩ := o_bd_some h
          refine o_sim2 (AH := fun z => o_At p l e rm_Tx_wholeNumber s m _ below meth c _ o_cls D A 4 47 [] (o_cw ad ca rt Sj T0 a0 Rd Pg Pt Mk Lk Ck Jd Ld Pr) [(0, .ref (ad 12)), (1, .int x1), (2, .int z.1), (3, .int z.2)]) (AX := fun q => o_At p l e rm_Tx_wholeNumber s m _ below meth c _ o_cls D A 4 80 [] (o_cw ad ca rt Sj T0 a0 Rd Pg Pt Mk Lk Ck Jd Ld Pr) [(2, .int q.2.1)]) (fun z q h h0 h1 => w_Tx_wholeNumber_b47_1 hE C hDD n x1 a0 Sj T0 Rd Pg Pt Mk Lk Ck Jd Ld Pr rt z q h h0 h1) n _ q9 hq9 ?_ _ _ _ hP hS (lv_sub hl [2, 3, 1, 0] rfl)
          intro H locs ls hP hS hl
          refine lv_iload_n hx hb d_Tx_wholeNumber_80 rfl (lv_at hl 0 rfl) ?_
          refine lv_ldc (v := (1000000:Int32)) hx hb hown (hts _ k_5_71) d_Tx_wholeNumber_81 ?_
          refine lv_icmp_le (tgt := 90) hx hb d_Tx_wholeNumber_83 (by decide) (fun c6 => ?_) (fun c6 => ?_)
          · replace h := o_tt c6 h
            refine lv_iload_n hx hb d_Tx_wholeNumber_90 rfl (lv_at hl 0 rfl) ?_
            cases h
            exact o_ri (v := q9.2.1) C hP hS d_Tx_wholeNumber_91
          · replace h := o_ff c6 h
            refine lv_iconst (v := (-1:Int32)) hx hb d_Tx_wholeNumber_86 (by decide) ?_
            refine lv_goto (tgt := 91) hx hb d_Tx_wholeNumber_87 (by decide) ?_
            cases h
            exact o_ri (v := (-1:Int32)) C hP hS d_Tx_wholeNumber_91
        · replace h := o_ff c4 h
          refine lv_iconst (v := (-1:Int32)) hx hb d_Tx_wholeNumber_41 (by decide) ?_
          cases h
          exact o_ri (v := (-1:Int32)) C hP hS d_Tx_wholeNumber_42
set_option maxHeartbeats 4000000 in
set_option maxRecDepth 100000 in
theorem c_Tx_slot_0 {E : (Nat → Prop) → State → Heap → Prop} {D : va_G} {ad : Nat → Nat} {ca : Nat → ClassId} (hE : o_Ek E) (l : Launch) (x1 : Int32) (a0 : STx) (Sj : SSJ) (T1 : STx) (Rd : SRd) (Pg : SPg) (Pt : SPt) (Mk : SMk) (Lk : SLk) (Ck : SCk) (Jd : SJd) (Ld : SLd) (Pr : SPr) (rt : Nat) {r : Int32} (h : m_Tx_slot x1 a0 = some r) : o_Cn E l D o_cls (o_tys ca) y_Tx_slot cc_Tx_slot rm_Tx_slot [.ref (ad 1), .int x1] (o_cw ad ca rt Sj a0 T1 Rd Pg Pt Mk Lk Ck Jd Ld Pr) (o_cw ad ca rt Sj a0 T1 Rd Pg Pt Mk Lk Ck Jd Ld Pr) (some (.int r)) := by
  refine o_Cn_of (by decide) (Nat.le_of_ble_eq_true rfl) ?_
  intro p e s m below meth c A ls C hD hP hS hl
  have hDD : ∀ (rt : Nat) (Sj : SSJ) (T0 : STx) (T1 : STx) (Rd : SRd) (Pg : SPg) (Pt : SPt) (Mk : SMk) (Lk : SLk) (Ck : SCk) (Jd : SJd) (Ld : SLd) (Pr : SPr), va_D A (o_cw ad ca rt Sj T0 T1 Rd Pg Pt Mk Lk Ck Jd Ld Pr) := fun _ _ _ _ _ _ _ _ _ _ _ _ _ => o_D_map hD rfl
  have hl : lv_has ls 2 [(0, .ref (ad 1)), (1, .int x1)] := hl
  unfold m_Tx_slot at h
  have C0 := C
  obtain ⟨hx, hb, -, -, -, hown, hts, hK, -, -⟩ := C0
  refine lv_iload_n hx hb d_Tx_slot_0 rfl (lv_at hl 1 rfl) ?_
  refine lv_if_lt (tgt := 21) hx hb d_Tx_slot_1 (by decide) (fun c1 => ?_) (fun c1 => ?_)
  · replace h := o_tt c1 h
    refine lv_iconst (v := (0:Int32)) hx hb d_Tx_slot_21 (by decide) ?_
    cases h
    exact o_ri (v := (0:Int32)) C hP hS d_Tx_slot_22
  · replace h := o_ff c1 h
    refine lv_iload_n hx hb d_Tx_slot_4 rfl (lv_at hl 1 rfl) ?_
    refine lv_aload_n hx hb d_Tx_slot_5 rfl (lv_at hl 0 rfl) ?_
    refine o_get (v := .int (Tx_total a0)) C in_Tx hP 1 cw_1 rfl 10 (by decide) k_1_56 rfl rfl d_Tx_slot_6 ?_
    refine lv_icmp_ge (tgt := 21) hx hb d_Tx_slot_9 (by decide) (fun c2 => ?_) (fun c2 => ?_)
    · replace h := o_tt c2 h
      refine lv_iconst (v := (0:Int32)) hx hb d_Tx_slot_21 (by decide) ?_
      cases h
      exact o_ri (v := (0:Int32)) C hP hS d_Tx_slot_22
    · replace h := o_ff c2 h
      refine lv_aload_n hx hb d_Tx_slot_12 rfl (lv_at hl 0 rfl) ?_
      refine o_get (v := .ref (ad 9)) C in_Tx hP 1 cw_1 rfl 7 (by decide) k_1_53 rfl rfl d_Tx_slot_13 ?_
      refine lv_iload_n hx hb d_Tx_slot_16 rfl (lv_at hl 1 rfl) ?_
      obtain ⟨g3, h⟩ := o_gd_some h
      refine o_iald (f := (Tx_slots a0)) C hP 9 7 cw_9 rfl g3 d_Tx_slot_17 ?_
      refine lv_goto (tgt := 22) hx hb d_Tx_slot_18 (by decide) ?_
      cases h
      exact o_ri (v := ((Tx_slots a0) x1.toNatClampNeg)) C hP hS d_Tx_slot_22
set_option maxHeartbeats 4000000 in
set_option maxRecDepth 100000 in
theorem c_Tx_slot_1 {E : (Nat → Prop) → State → Heap → Prop} {D : va_G} {ad : Nat → Nat} {ca : Nat → ClassId} (hE : o_Ek E) (l : Launch) (x1 : Int32) (a0 : STx) (Sj : SSJ) (T0 : STx) (Rd : SRd) (Pg : SPg) (Pt : SPt) (Mk : SMk) (Lk : SLk) (Ck : SCk) (Jd : SJd) (Ld : SLd) (Pr : SPr) (rt : Nat) {r : Int32} (h : m_Tx_slot x1 a0 = some r) : o_Cn E l D o_cls (o_tys ca) y_Tx_slot cc_Tx_slot rm_Tx_slot [.ref (ad 12), .int x1] (o_cw ad ca rt Sj T0 a0 Rd Pg Pt Mk Lk Ck Jd Ld Pr) (o_cw ad ca rt Sj T0 a0 Rd Pg Pt Mk Lk Ck Jd Ld Pr) (some (.int r)) := by
  refine o_Cn_of (by decide) (Nat.le_of_ble_eq_true rfl) ?_
  intro p e s m below meth c A ls C hD hP hS hl
  have hDD : ∀ (rt : Nat) (Sj : SSJ) (T0 : STx) (T1 : STx) (Rd : SRd) (Pg : SPg) (Pt : SPt) (Mk : SMk) (Lk : SLk) (Ck : SCk) (Jd : SJd) (Ld : SLd) (Pr : SPr), va_D A (o_cw ad ca rt Sj T0 T1 Rd Pg Pt Mk Lk Ck Jd Ld Pr) := fun _ _ _ _ _ _ _ _ _ _ _ _ _ => o_D_map hD rfl
  have hl : lv_has ls 2 [(0, .ref (ad 12)), (1, .int x1)] := hl
  unfold m_Tx_slot at h
  have C0 := C
  obtain ⟨hx, hb, -, -, -, hown, hts, hK, -, -⟩ := C0
  refine lv_iload_n hx hb d_Tx_slot_0 rfl (lv_at hl 1 rfl) ?_
  refine lv_if_lt (tgt := 21) hx hb d_Tx_slot_1 (by decide) (fun c1 => ?_) (fun c1 => ?_)
  · replace h := o_tt c1 h
    refine lv_iconst (v := (0:Int32)) hx hb d_Tx_slot_21 (by decide) ?_
    cases h
    exact o_ri (v := (0:Int32)) C hP hS d_Tx_slot_22
  · replace h := o_ff c1 h
    refine lv_iload_n hx hb d_Tx_slot_4 rfl (lv_at hl 1 rfl) ?_
    refine lv_aload_n hx hb d_Tx_slot_5 rfl (lv_at hl 0 rfl) ?_
    refine o_get (v := .int (Tx_total a0)) C in_Tx hP 12 cw_12 rfl 10 (by decide) k_1_56 rfl rfl d_Tx_slot_6 ?_
    refine lv_icmp_ge (tgt := 21) hx hb d_Tx_slot_9 (by decide) (fun c2 => ?_) (fun c2 => ?_)
    · replace h := o_tt c2 h
      refine lv_iconst (v := (0:Int32)) hx hb d_Tx_slot_21 (by decide) ?_
      cases h
      exact o_ri (v := (0:Int32)) C hP hS d_Tx_slot_22
    · replace h := o_ff c2 h
      refine lv_aload_n hx hb d_Tx_slot_12 rfl (lv_at hl 0 rfl) ?_
      refine o_get (v := .ref (ad 20)) C in_Tx hP 12 cw_12 rfl 7 (by decide) k_1_53 rfl rfl d_Tx_slot_13 ?_
      refine lv_iload_n hx hb d_Tx_slot_16 rfl (lv_at hl 1 rfl) ?_
      obtain ⟨g3, h⟩ := o_gd_some h
      refine o_iald (f := (Tx_slots a0)) C hP 20 17 cw_20 rfl g3 d_Tx_slot_17 ?_
      refine lv_goto (tgt := 22) hx hb d_Tx_slot_18 (by decide) ?_
      cases h
      exact o_ri (v := ((Tx_slots a0) x1.toNatClampNeg)) C hP hS d_Tx_slot_22
set_option maxHeartbeats 4000000 in
set_option maxRecDepth 100000 in
theorem w_Tx_element_b9_0 {E : (Nat → Prop) → State → Heap → Prop} {p : Program} {l : Launch} {e : Env} {s : State} {m : MethodId} {args : Array Value} {below : List Frame} {meth : Method} {c : Code} {D : va_G} {ad : Nat → Nat} {ca : Nat → ClassId} {A : Nat → Prop} {Q : State → Prop} (hE : o_Ek E) (C : o_Cx E p s m args meth c D o_cls (o_tys ca) "SchemaJudge$Text" b_Tx_element (some .int) 5 cc_Tx_element A) (hDD : ∀ (rt : Nat) (Sj : SSJ) (T0 : STx) (T1 : STx) (Rd : SRd) (Pg : SPg) (Pt : SPt) (Mk : SMk) (Lk : SLk) (Ck : SCk) (Jd : SJd) (Ld : SLd) (Pr : SPr), va_D A (o_cw ad ca rt Sj T0 T1 Rd Pg Pt Mk Lk Ck Jd Ld Pr)) (n : Nat) (u9_x2 : Int32) (u9_a0 : STx) (u9_Sj : SSJ) (u9_T1 : STx) (u9_Rd : SRd) (u9_Pg : SPg) (u9_Pt : SPt) (u9_Mk : SMk) (u9_Lk : SLk) (u9_Ck : SCk) (u9_Jd : SJd) (u9_Ld : SLd) (u9_Pr : SPr) (u9_rt : Nat) (z : Int32 × Int32) (q : Nat × Int32 × Int32) (h : m_Tx_element_b9 n u9_x2 u9_a0 z = some q) (h0 : q.1 = 0 → o_At p l e rm_Tx_element s m args below meth c Q o_cls D A 5 9 [] (o_cw ad ca u9_rt u9_Sj u9_a0 u9_T1 u9_Rd u9_Pg u9_Pt u9_Mk u9_Lk u9_Ck u9_Jd u9_Ld u9_Pr) [(0, .ref (ad 1)), (2, .int u9_x2), (3, .int q.2.1), (4, .int q.2.2)]) (h1 : q.1 ≠ 0 → (o_At p l e rm_Tx_element s m args below meth c Q o_cls D A 5 32 [] (o_cw ad ca u9_rt u9_Sj u9_a0 u9_T1 u9_Rd u9_Pg u9_Pt u9_Mk u9_Lk u9_Ck u9_Jd u9_Ld u9_Pr) [(3, .int q.2.1)])) : o_At p l e rm_Tx_element s m args below meth c Q o_cls D A 5 9 [] (o_cw ad ca u9_rt u9_Sj u9_a0 u9_T1 u9_Rd u9_Pg u9_Pt u9_Mk u9_Lk u9_Ck u9_Jd u9_Ld u9_Pr) [(0, .ref (ad 1)), (2, .int u9_x2), (3, .int z.1), (4, .int z.2)] := by
  unfold m_Tx_element_b9 at h
  intro H locs ls hP hS hl
  have C0 := C
  obtain ⟨hx, hb, -, -, -, hown, hts, hK, -, -⟩ := C0
  refine lv_iload hx hb d_Tx_element_9 (lv_at hl 3 rfl) ?_
  refine lv_iload_n hx hb d_Tx_element_11 rfl (lv_at hl 1 rfl) ?_
  refine lv_icmp_ge (tgt := 32) hx hb d_Tx_element_12 (by decide) (fun c1 => ?_) (fun c1 => ?_)
  · replace h := o_tt c1 h
    cases h
    exact h1 (Nat.succ_ne_zero 0) _ _ _ hP hS (lv_sub hl [2] rfl)
  · replace h := o_ff c1 h
    refine lv_iload_n hx hb d_Tx_element_15 rfl (lv_at hl 2 rfl) ?_
    refine lv_iconst (v := (-1:Int32)) hx hb d_Tx_element_16 (by decide) ?_
    refine lv_icmp_eq (tgt := 32) hx hb d_Tx_element_17 (by decide) (fun c2 => ?_) (fun c2 => ?_)
    · replace h := o_tt c2 h
      cases h
      exact h1 (Nat.succ_ne_zero 0) _ _ _ hP hS (lv_sub hl [2] rfl)
    · replace h := o_ff c2 h
      refine lv_aload_n hx hb d_Tx_element_20 rfl (lv_at hl 0 rfl) ?_
      refine lv_iload_n hx hb d_Tx_element_21 rfl (lv_at hl 2 rfl) ?_
      obtain ⟨q2, hq2, h⟩ := o_bd_some h
      refine o_V (st1 := [.int q2]) (w1 := (o_cw ad ca u9_rt u9_Sj u9_a0 u9_T1 u9_Rd u9_Pg u9_Pt u9_Mk u9_Lk u9_Ck u9_Jd u9_Ld u9_Pr)) hE C (c_Tx_nextChild_0 hE l z.1 u9_a0 u9_Sj u9_T1 u9_Rd u9_Pg u9_Pt u9_Mk u9_Lk u9_Ck u9_Jd u9_Ld u9_Pr u9_rt hq2) hP (hDD _ _ _ _ _ _ _ _ _ _ _ _ _) hS hl.1 rfl cw_1 k_3_221 k_3_222 k_3_223 k_1_2 k_3_224 hv_Tx_nextChild rfl rfl ⟨Nat.le_of_ble_eq_true rfl, Nat.le_of_ble_eq_true rfl⟩ rfl (Nat.le_of_ble_eq_true rfl) ⟨Nat.le_of_ble_eq_true rfl, Nat.le_of_ble_eq_true rfl⟩ rfl d_Tx_element_22 (fun H locs hP hS => ?_)
      refine lv_istore_n (lv' := [(3, .int q2), (0, .ref (ad 1)), (2, .int u9_x2), (4, .int z.2)]) hx hb d_Tx_element_25 rfl hl (by decide) rfl (fun ls hl => ?_)
      obtain ⟨x4_26, ex4_26⟩ : ∃ y : Int32, y = z.2 + (1:Int32) := ⟨_, rfl⟩
      replace h := o_nm_at ex4_26 h
      refine lv_iinc (v := x4_26) (lv' := [(4, .int x4_26), (3, .int q2), (0, .ref (ad 1)), (2, .int u9_x2)]) hx hb d_Tx_element_26 hl (k := 3) rfl (by rw [ex4_26]; rfl) (by decide) rfl (fun ls hl => ?_)
      refine lv_goto (tgt := 9) hx hb d_Tx_element_29 (by decide) ?_
      cases h
      exact h0 rfl _ _ _ hP hS (lv_sub hl [2, 3, 1, 0] rfl)
set_option maxHeartbeats 4000000 in
set_option maxRecDepth 100000 in
theorem c_Tx_element_0 {E : (Nat → Prop) → State → Heap → Prop} {D : va_G} {ad : Nat → Nat} {ca : Nat → ClassId} (hE : o_Ek E) (l : Launch) (n : Nat) (x1 : Int32) (x2 : Int32) (a0 : STx) (Sj : SSJ) (T1 : STx) (Rd : SRd) (Pg : SPg) (Pt : SPt) (Mk : SMk) (Lk : SLk) (Ck : SCk) (Jd : SJd) (Ld : SLd) (Pr : SPr) (rt : Nat) {r : Int32} (h : m_Tx_element n x1 x2 a0 = some r) : o_Cn E l D o_cls (o_tys ca) y_Tx_element cc_Tx_element rm_Tx_element [.ref (ad 1), .int x1, .int x2] (o_cw ad ca rt Sj a0 T1 Rd Pg Pt Mk Lk Ck Jd Ld Pr) (o_cw ad ca rt Sj a0 T1 Rd Pg Pt Mk Lk Ck Jd Ld Pr) (some (.int r)) := by
  refine o_Cn_of (by decide) (Nat.le_of_ble_eq_true rfl) ?_
  intro p e s m below meth c A ls C hD hP hS hl
  have hDD : ∀ (rt : Nat) (Sj : SSJ) (T0 : STx) (T1 : STx) (Rd : SRd) (Pg : SPg) (Pt : SPt) (Mk : SMk) (Lk : SLk) (Ck : SCk) (Jd : SJd) (Ld : SLd) (Pr : SPr), va_D A (o_cw ad ca rt Sj T0 T1 Rd Pg Pt Mk Lk Ck Jd Ld Pr) := fun _ _ _ _ _ _ _ _ _ _ _ _ _ => o_D_map hD rfl
  have hl : lv_has ls 5 [(0, .ref (ad 1)), (1, .int x1), (2, .int x2)] := hl
  unfold m_Tx_element at h
  have C0 := C
  obtain ⟨hx, hb, -, -, -, hown, hts, hK, -, -⟩ := C0
  refine lv_aload_n hx hb d_Tx_element_0 rfl (lv_at hl 0 rfl) ?_
  refine lv_iload_n hx hb d_Tx_element_1 rfl (lv_at hl 1 rfl) ?_
  obtain ⟨q1, hq1, h⟩ := o_bd_some h
  refine o_V (st1 := [.int q1]) (w1 := (o_cw ad ca rt Sj a0 T1 Rd Pg Pt Mk Lk Ck Jd Ld Pr)) hE C (c_Tx_firstChild_0 hE l x1 a0 Sj T1 Rd Pg Pt Mk Lk Ck Jd Ld Pr rt hq1) hP (hDD _ _ _ _ _ _ _ _ _ _ _ _ _) hS hl.1 rfl cw_1 k_3_210 k_3_211 k_3_212 k_1_2 k_3_213 hv_Tx_firstChild rfl rfl ⟨Nat.le_of_ble_eq_true rfl, Nat.le_of_ble_eq_true rfl⟩ rfl (Nat.le_of_ble_eq_true rfl) ⟨Nat.le_of_ble_eq_true rfl, Nat.le_of_ble_eq_true rfl⟩ rfl d_Tx_element_2 (fun H locs hP hS => ?_)
  refine lv_istore_n (lv' := [(3, .int q1), (0, .ref (ad 1)), (1, .int x1), (2, .int x2)]) hx hb d_Tx_element_5 rfl hl (by decide) rfl (fun ls hl => ?_)
  refine lv_iconst (v := (0:Int32)) hx hb d_Tx_element_6 (by decide) ?_
  refine lv_istore (lv' := [(4, .int (0:Int32)), (3, .int q1), (0, .ref (ad 1)), (1, .int x1), (2, .int x2)]) hx hb d_Tx_element_7 hl (by decide) rfl (fun ls hl => ?_)
  obtain ⟨q3, hq3, h⟩ := o_bd_some h
  refine o_sim2 (AH := fun z => o_At p l e rm_Tx_element s m _ below meth c _ o_cls D A 5 9 [] (o_cw ad ca rt Sj a0 T1 Rd Pg Pt Mk Lk Ck Jd Ld Pr) [(0, .ref (ad 1)), (2, .int x2), (3, .int z.1), (4, .int z.2)]) (AX := fun q => o_At p l e rm_Tx_element s m _ below meth c _ o_cls D A 5 32 [] (o_cw ad ca rt Sj a0 T1 Rd Pg Pt Mk Lk Ck Jd Ld Pr) [(3, .int q.2.1)]) (fun z q h h0 h1 => w_Tx_element_b9_0 hE C hDD n x2 a0 Sj T1 Rd Pg Pt Mk Lk Ck Jd Ld Pr rt z q h h0 h1) n _ q3 hq3 ?_ _ _ _ hP hS (lv_sub hl [2, 4, 1, 0] rfl)
  intro H locs ls hP hS hl
  refine lv_iload_n hx hb d_Tx_element_32 rfl (lv_at hl 0 rfl) ?_
  cases h
  exact o_ri (v := q3.2.1) C hP hS d_Tx_element_33
set_option maxHeartbeats 4000000 in
set_option maxRecDepth 100000 in
theorem w_Tx_element_b9_1 {E : (Nat → Prop) → State → Heap → Prop} {p : Program} {l : Launch} {e : Env} {s : State} {m : MethodId} {args : Array Value} {below : List Frame} {meth : Method} {c : Code} {D : va_G} {ad : Nat → Nat} {ca : Nat → ClassId} {A : Nat → Prop} {Q : State → Prop} (hE : o_Ek E) (C : o_Cx E p s m args meth c D o_cls (o_tys ca) "SchemaJudge$Text" b_Tx_element (some .int) 5 cc_Tx_element A) (hDD : ∀ (rt : Nat) (Sj : SSJ) (T0 : STx) (T1 : STx) (Rd : SRd) (Pg : SPg) (Pt : SPt) (Mk : SMk) (Lk : SLk) (Ck : SCk) (Jd : SJd) (Ld : SLd) (Pr : SPr), va_D A (o_cw ad ca rt Sj T0 T1 Rd Pg Pt Mk Lk Ck Jd Ld Pr)) (n : Nat) (u9_x2 : Int32) (u9_a0 : STx) (u9_Sj : SSJ) (u9_T0 : STx) (u9_Rd : SRd) (u9_Pg : SPg) (u9_Pt : SPt) (u9_Mk : SMk) (u9_Lk : SLk) (u9_Ck : SCk) (u9_Jd : SJd) (u9_Ld : SLd) (u9_Pr : SPr) (u9_rt : Nat) (z : Int32 × Int32) (q : Nat × Int32 × Int32) (h : m_Tx_element_b9 n u9_x2 u9_a0 z = some q) (h0 : q.1 = 0 → o_At p l e rm_Tx_element s m args below meth c Q o_cls D A 5 9 [] (o_cw ad ca u9_rt u9_Sj u9_T0 u9_a0 u9_Rd u9_Pg u9_Pt u9_Mk u9_Lk u9_Ck u9_Jd u9_Ld u9_Pr) [(0, .ref (ad 12)), (2, .int u9_x2), (3, .int q.2.1), (4, .int q.2.2)]) (h1 : q.1 ≠ 0 → (o_At p l e rm_Tx_element s m args below meth c Q o_cls D A 5 32 [] (o_cw ad ca u9_rt u9_Sj u9_T0 u9_a0 u9_Rd u9_Pg u9_Pt u9_Mk u9_Lk u9_Ck u9_Jd u9_Ld u9_Pr) [(3, .int q.2.1)])) : o_At p l e rm_Tx_element s m args below meth c Q o_cls D A 5 9 [] (o_cw ad ca u9_rt u9_Sj u9_T0 u9_a0 u9_Rd u9_Pg u9_Pt u9_Mk u9_Lk u9_Ck u9_Jd u9_Ld u9_Pr) [(0, .ref (ad 12)), (2, .int u9_x2), (3, .int z.1), (4, .int z.2)] := by
  unfold m_Tx_element_b9 at h
  intro H locs ls hP hS hl
  have C0 := C
  obtain ⟨hx, hb, -, -, -, hown, hts, hK, -, -⟩ := C0
  refine lv_iload hx hb d_Tx_element_9 (lv_at hl 3 rfl) ?_
  refine lv_iload_n hx hb d_Tx_element_11 rfl (lv_at hl 1 rfl) ?_
  refine lv_icmp_ge (tgt := 32) hx hb d_Tx_element_12 (by decide) (fun c1 => ?_) (fun c1 => ?_)
  · replace h := o_tt c1 h
    cases h
    exact h1 (Nat.succ_ne_zero 0) _ _ _ hP hS (lv_sub hl [2] rfl)
  · replace h := o_ff c1 h
    refine lv_iload_n hx hb d_Tx_element_15 rfl (lv_at hl 2 rfl) ?_
    refine lv_iconst (v := (-1:Int32)) hx hb d_Tx_element_16 (by decide) ?_
    refine lv_icmp_eq (tgt := 32) hx hb d_Tx_element_17 (by decide) (fun c2 => ?_) (fun c2 => ?_)
    · replace h := o_tt c2 h
      cases h
      exact h1 (Nat.succ_ne_zero 0) _ _ _ hP hS (lv_sub hl [2] rfl)
    · replace h := o_ff c2 h
      refine lv_aload_n hx hb d_Tx_element_20 rfl (lv_at hl 0 rfl) ?_
      refine lv_iload_n hx hb d_Tx_element_21 rfl (lv_at hl 2 rfl) ?_
      obtain ⟨q2, hq2, h⟩ := o_bd_some h
      refine o_V (st1 := [.int q2]) (w1 := (o_cw ad ca u9_rt u9_Sj u9_T0 u9_a0 u9_Rd u9_Pg u9_Pt u9_Mk u9_Lk u9_Ck u9_Jd u9_Ld u9_Pr)) hE C (c_Tx_nextChild_1 hE l z.1 u9_a0 u9_Sj u9_T0 u9_Rd u9_Pg u9_Pt u9_Mk u9_Lk u9_Ck u9_Jd u9_Ld u9_Pr u9_rt hq2) hP (hDD _ _ _ _ _ _ _ _ _ _ _ _ _) hS hl.1 rfl cw_12 k_3_221 k_3_222 k_3_223 k_1_2 k_3_224 hv_Tx_nextChild rfl rfl ⟨Nat.le_of_ble_eq_true rfl, Nat.le_of_ble_eq_true rfl⟩ rfl (Nat.le_of_ble_eq_true rfl) ⟨Nat.le_of_ble_eq_true rfl, Nat.le_of_ble_eq_true rfl⟩ rfl d_Tx_element_22 (fun H locs hP hS => ?_)
      refine lv_istore_n (lv' := [(3, .int q2), (0, .ref (ad 12)), (2, .int u9_x2), (4, .int z.2)]) hx hb d_Tx_element_25 rfl hl (by decide) rfl (fun ls hl => ?_)
      obtain ⟨x4_26, ex4_26⟩ : ∃ y : Int32, y = z.2 + (1:Int32) := ⟨_, rfl⟩
      replace h := o_nm_at ex4_26 h
      refine lv_iinc (v := x4_26) (lv' := [(4, .int x4_26), (3, .int q2), (0, .ref (ad 12)), (2, .int u9_x2)]) hx hb d_Tx_element_26 hl (k := 3) rfl (by rw [ex4_26]; rfl) (by decide) rfl (fun ls hl => ?_)
      refine lv_goto (tgt := 9) hx hb d_Tx_element_29 (by decide) ?_
      cases h
      exact h0 rfl _ _ _ hP hS (lv_sub hl [2, 3, 1, 0] rfl)
set_option maxHeartbeats 4000000 in
set_option maxRecDepth 100000 in
theorem c_Tx_element_1 {E : (Nat → Prop) → State → Heap → Prop} {D : va_G} {ad : Nat → Nat} {ca : Nat → ClassId} (hE : o_Ek E) (l : Launch) (n : Nat) (x1 : Int32) (x2 : Int32) (a0 : STx) (Sj : SSJ) (T0 : STx) (Rd : SRd) (Pg : SPg) (Pt : SPt) (Mk : SMk) (Lk : SLk) (Ck : SCk) (Jd : SJd) (Ld : SLd) (Pr : SPr) (rt : Nat) {r : Int32} (h : m_Tx_element n x1 x2 a0 = some r) : o_Cn E l D o_cls (o_tys ca) y_Tx_element cc_Tx_element rm_Tx_element [.ref (ad 12), .int x1, .int x2] (o_cw ad ca rt Sj T0 a0 Rd Pg Pt Mk Lk Ck Jd Ld Pr) (o_cw ad ca rt Sj T0 a0 Rd Pg Pt Mk Lk Ck Jd Ld Pr) (some (.int r)) := by
  refine o_Cn_of (by decide) (Nat.le_of_ble_eq_true rfl) ?_
  intro p e s m below meth c A ls C hD hP hS hl
  have hDD : ∀ (rt : Nat) (Sj : SSJ) (T0 : STx) (T1 : STx) (Rd : SRd) (Pg : SPg) (Pt : SPt) (Mk : SMk) (Lk : SLk) (Ck : SCk) (Jd : SJd) (Ld : SLd) (Pr : SPr), va_D A (o_cw ad ca rt Sj T0 T1 Rd Pg Pt Mk Lk Ck Jd Ld Pr) := fun _ _ _ _ _ _ _ _ _ _ _ _ _ => o_D_map hD rfl
  have hl : lv_has ls 5 [(0, .ref (ad 12)), (1, .int x1), (2, .int x2)] := hl
  unfold m_Tx_element at h
  have C0 := C
  obtain ⟨hx, hb, -, -, -, hown, hts, hK, -, -⟩ := C0
  refine lv_aload_n hx hb d_Tx_element_0 rfl (lv_at hl 0 rfl) ?_
  refine lv_iload_n hx hb d_Tx_element_1 rfl (lv_at hl 1 rfl) ?_
  obtain ⟨q1, hq1, h⟩ := o_bd_some h
  refine o_V (st1 := [.int q1]) (w1 := (o_cw ad ca rt Sj T0 a0 Rd Pg Pt Mk Lk Ck Jd Ld Pr)) hE C (c_Tx_firstChild_1 hE l x1 a0 Sj T0 Rd Pg Pt Mk Lk Ck Jd Ld Pr rt hq1) hP (hDD _ _ _ _ _ _ _ _ _ _ _ _ _) hS hl.1 rfl cw_12 k_3_210 k_3_211 k_3_212 k_1_2 k_3_213 hv_Tx_firstChild rfl rfl ⟨Nat.le_of_ble_eq_true rfl, Nat.le_of_ble_eq_true rfl⟩ rfl (Nat.le_of_ble_eq_true rfl) ⟨Nat.le_of_ble_eq_true rfl, Nat.le_of_ble_eq_true rfl⟩ rfl d_Tx_element_2 (fun H locs hP hS => ?_)
  refine lv_istore_n (lv' := [(3, .int q1), (0, .ref (ad 12)), (1, .int x1), (2, .int x2)]) hx hb d_Tx_element_5 rfl hl (by decide) rfl (fun ls hl => ?_)
  refine lv_iconst (v := (0:Int32)) hx hb d_Tx_element_6 (by decide) ?_
  refine lv_istore (lv' := [(4, .int (0:Int32)), (3, .int q1), (0, .ref (ad 12)), (1, .int x1), (2, .int x2)]) hx hb d_Tx_element_7 hl (by decide) rfl (fun ls hl => ?_)
  obtain ⟨q3, hq3, h⟩ := o_bd_some h
  refine o_sim2 (AH := fun z => o_At p l e rm_Tx_element s m _ below meth c _ o_cls D A 5 9 [] (o_cw ad ca rt Sj T0 a0 Rd Pg Pt Mk Lk Ck Jd Ld Pr) [(0, .ref (ad 12)), (2, .int x2), (3, .int z.1), (4, .int z.2)]) (AX := fun q => o_At p l e rm_Tx_element s m _ below meth c _ o_cls D A 5 32 [] (o_cw ad ca rt Sj T0 a0 Rd Pg Pt Mk Lk Ck Jd Ld Pr) [(3, .int q.2.1)]) (fun z q h h0 h1 => w_Tx_element_b9_1 hE C hDD n x2 a0 Sj T0 Rd Pg Pt Mk Lk Ck Jd Ld Pr rt z q h h0 h1) n _ q3 hq3 ?_ _ _ _ hP hS (lv_sub hl [2, 4, 1, 0] rfl)
  intro H locs ls hP hS hl
  refine lv_iload_n hx hb d_Tx_element_32 rfl (lv_at hl 0 rfl) ?_
  cases h
  exact o_ri (v := q3.2.1) C hP hS d_Tx_element_33
set_option maxHeartbeats 4000000 in
set_option maxRecDepth 100000 in
theorem c_Tx_parent_0 {E : (Nat → Prop) → State → Heap → Prop} {D : va_G} {ad : Nat → Nat} {ca : Nat → ClassId} (hE : o_Ek E) (l : Launch) (x1 : Int32) (a0 : STx) (Sj : SSJ) (T1 : STx) (Rd : SRd) (Pg : SPg) (Pt : SPt) (Mk : SMk) (Lk : SLk) (Ck : SCk) (Jd : SJd) (Ld : SLd) (Pr : SPr) (rt : Nat) {r : Int32} (h : m_Tx_parent x1 a0 = some r) : o_Cn E l D o_cls (o_tys ca) y_Tx_parent cc_Tx_parent rm_Tx_parent [.ref (ad 1), .int x1] (o_cw ad ca rt Sj a0 T1 Rd Pg Pt Mk Lk Ck Jd Ld Pr) (o_cw ad ca rt Sj a0 T1 Rd Pg Pt Mk Lk Ck Jd Ld Pr) (some (.int r)) := by
  refine o_Cn_of (by decide) (Nat.le_of_ble_eq_true rfl) ?_
  intro p e s m below meth c A ls C hD hP hS hl
  have hDD : ∀ (rt : Nat) (Sj : SSJ) (T0 : STx) (T1 : STx) (Rd : SRd) (Pg : SPg) (Pt : SPt) (Mk : SMk) (Lk : SLk) (Ck : SCk) (Jd : SJd) (Ld : SLd) (Pr : SPr), va_D A (o_cw ad ca rt Sj T0 T1 Rd Pg Pt Mk Lk Ck Jd Ld Pr) := fun _ _ _ _ _ _ _ _ _ _ _ _ _ => o_D_map hD rfl
  have hl : lv_has ls 2 [(0, .ref (ad 1)), (1, .int x1)] := hl
  unfold m_Tx_parent at h
  have C0 := C
  obtain ⟨hx, hb, -, -, -, hown, hts, hK, -, -⟩ := C0
  refine lv_iload_n hx hb d_Tx_parent_0 rfl (lv_at hl 1 rfl) ?_
  refine lv_if_lt (tgt := 21) hx hb d_Tx_parent_1 (by decide) (fun c1 => ?_) (fun c1 => ?_)
  · replace h := o_tt c1 h
    refine lv_iconst (v := (-1:Int32)) hx hb d_Tx_parent_21 (by decide) ?_
    cases h
    exact o_ri (v := (-1:Int32)) C hP hS d_Tx_parent_22
  · replace h := o_ff c1 h
    refine lv_iload_n hx hb d_Tx_parent_4 rfl (lv_at hl 1 rfl) ?_
    refine lv_aload_n hx hb d_Tx_parent_5 rfl (lv_at hl 0 rfl) ?_
    refine o_get (v := .int (Tx_total a0)) C in_Tx hP 1 cw_1 rfl 10 (by decide) k_1_56 rfl rfl d_Tx_parent_6 ?_
    refine lv_icmp_ge (tgt := 21) hx hb d_Tx_parent_9 (by decide) (fun c2 => ?_) (fun c2 => ?_)
    · replace h := o_tt c2 h
      refine lv_iconst (v := (-1:Int32)) hx hb d_Tx_parent_21 (by decide) ?_
      cases h
      exact o_ri (v := (-1:Int32)) C hP hS d_Tx_parent_22
    · replace h := o_ff c2 h
      refine lv_aload_n hx hb d_Tx_parent_12 rfl (lv_at hl 0 rfl) ?_
      refine o_get (v := .ref (ad 5)) C in_Tx hP 1 cw_1 rfl 3 (by decide) k_1_49 rfl rfl d_Tx_parent_13 ?_
      refine lv_iload_n hx hb d_Tx_parent_16 rfl (lv_at hl 1 rfl) ?_
      obtain ⟨g3, h⟩ := o_gd_some h
      refine o_iald (f := (Tx_parents a0)) C hP 5 3 cw_5 rfl g3 d_Tx_parent_17 ?_
      refine lv_goto (tgt := 22) hx hb d_Tx_parent_18 (by decide) ?_
      cases h
      exact o_ri (v := ((Tx_parents a0) x1.toNatClampNeg)) C hP hS d_Tx_parent_22
set_option maxHeartbeats 4000000 in
set_option maxRecDepth 100000 in
theorem c_Tx_parent_1 {E : (Nat → Prop) → State → Heap → Prop} {D : va_G} {ad : Nat → Nat} {ca : Nat → ClassId} (hE : o_Ek E) (l : Launch) (x1 : Int32) (a0 : STx) (Sj : SSJ) (T0 : STx) (Rd : SRd) (Pg : SPg) (Pt : SPt) (Mk : SMk) (Lk : SLk) (Ck : SCk) (Jd : SJd) (Ld : SLd) (Pr : SPr) (rt : Nat) {r : Int32} (h : m_Tx_parent x1 a0 = some r) : o_Cn E l D o_cls (o_tys ca) y_Tx_parent cc_Tx_parent rm_Tx_parent [.ref (ad 12), .int x1] (o_cw ad ca rt Sj T0 a0 Rd Pg Pt Mk Lk Ck Jd Ld Pr) (o_cw ad ca rt Sj T0 a0 Rd Pg Pt Mk Lk Ck Jd Ld Pr) (some (.int r)) := by
  refine o_Cn_of (by decide) (Nat.le_of_ble_eq_true rfl) ?_
  intro p e s m below meth c A ls C hD hP hS hl
  have hDD : ∀ (rt : Nat) (Sj : SSJ) (T0 : STx) (T1 : STx) (Rd : SRd) (Pg : SPg) (Pt : SPt) (Mk : SMk) (Lk : SLk) (Ck : SCk) (Jd : SJd) (Ld : SLd) (Pr : SPr), va_D A (o_cw ad ca rt Sj T0 T1 Rd Pg Pt Mk Lk Ck Jd Ld Pr) := fun _ _ _ _ _ _ _ _ _ _ _ _ _ => o_D_map hD rfl
  have hl : lv_has ls 2 [(0, .ref (ad 12)), (1, .int x1)] := hl
  unfold m_Tx_parent at h
  have C0 := C
  obtain ⟨hx, hb, -, -, -, hown, hts, hK, -, -⟩ := C0
  refine lv_iload_n hx hb d_Tx_parent_0 rfl (lv_at hl 1 rfl) ?_
  refine lv_if_lt (tgt := 21) hx hb d_Tx_parent_1 (by decide) (fun c1 => ?_) (fun c1 => ?_)
  · replace h := o_tt c1 h
    refine lv_iconst (v := (-1:Int32)) hx hb d_Tx_parent_21 (by decide) ?_
    cases h
    exact o_ri (v := (-1:Int32)) C hP hS d_Tx_parent_22
  · replace h := o_ff c1 h
    refine lv_iload_n hx hb d_Tx_parent_4 rfl (lv_at hl 1 rfl) ?_
    refine lv_aload_n hx hb d_Tx_parent_5 rfl (lv_at hl 0 rfl) ?_
    refine o_get (v := .int (Tx_total a0)) C in_Tx hP 12 cw_12 rfl 10 (by decide) k_1_56 rfl rfl d_Tx_parent_6 ?_
    refine lv_icmp_ge (tgt := 21) hx hb d_Tx_parent_9 (by decide) (fun c2 => ?_) (fun c2 => ?_)
    · replace h := o_tt c2 h
      refine lv_iconst (v := (-1:Int32)) hx hb d_Tx_parent_21 (by decide) ?_
      cases h
      exact o_ri (v := (-1:Int32)) C hP hS d_Tx_parent_22
    · replace h := o_ff c2 h
      refine lv_aload_n hx hb d_Tx_parent_12 rfl (lv_at hl 0 rfl) ?_
      refine o_get (v := .ref (ad 16)) C in_Tx hP 12 cw_12 rfl 3 (by decide) k_1_49 rfl rfl d_Tx_parent_13 ?_
      refine lv_iload_n hx hb d_Tx_parent_16 rfl (lv_at hl 1 rfl) ?_
      obtain ⟨g3, h⟩ := o_gd_some h
      refine o_iald (f := (Tx_parents a0)) C hP 16 13 cw_16 rfl g3 d_Tx_parent_17 ?_
      refine lv_goto (tgt := 22) hx hb d_Tx_parent_18 (by decide) ?_
      cases h
      exact o_ri (v := ((Tx_parents a0) x1.toNatClampNeg)) C hP hS d_Tx_parent_22
set_option maxHeartbeats 4000000 in
set_option maxRecDepth 100000 in
theorem c_Tx_has_0 {E : (Nat → Prop) → State → Heap → Prop} {D : va_G} {ad : Nat → Nat} {ca : Nat → ClassId} (hE : o_Ek E) (l : Launch) (x1 : Int32) (a0 : STx) (Sj : SSJ) (T1 : STx) (Rd : SRd) (Pg : SPg) (Pt : SPt) (Mk : SMk) (Lk : SLk) (Ck : SCk) (Jd : SJd) (Ld : SLd) (Pr : SPr) (rt : Nat) {r : Int32} (h : m_Tx_has x1 a0 = some r) : o_Cn E l D o_cls (o_tys ca) y_Tx_has cc_Tx_has rm_Tx_has [.ref (ad 1), .int x1] (o_cw ad ca rt Sj a0 T1 Rd Pg Pt Mk Lk Ck Jd Ld Pr) (o_cw ad ca rt Sj a0 T1 Rd Pg Pt Mk Lk Ck Jd Ld Pr) (some (.int r)) := by
  refine o_Cn_of (by decide) (Nat.le_of_ble_eq_true rfl) ?_
  intro p e s m below meth c A ls C hD hP hS hl
  have hDD : ∀ (rt : Nat) (Sj : SSJ) (T0 : STx) (T1 : STx) (Rd : SRd) (Pg : SPg) (Pt : SPt) (Mk : SMk) (Lk : SLk) (Ck : SCk) (Jd : SJd) (Ld : SLd) (Pr : SPr), va_D A (o_cw ad ca rt Sj T0 T1 Rd Pg Pt Mk Lk Ck Jd Ld Pr) := fun _ _ _ _ _ _ _ _ _ _ _ _ _ => o_D_map hD rfl
  have hl : lv_has ls 2 [(0, .ref (ad 1)), (1, .int x1)] := hl
  unfold m_Tx_has at h
  have C0 := C
  obtain ⟨hx, hb, -, -, -, hown, hts, hK, -, -⟩ := C0
  refine lv_iload_n hx hb d_Tx_has_0 rfl (lv_at hl 1 rfl) ?_
  refine lv_if_lt (tgt := 16) hx hb d_Tx_has_1 (by decide) (fun c1 => ?_) (fun c1 => ?_)
  · replace h := o_tt c1 h
    refine lv_iconst (v := (0:Int32)) hx hb d_Tx_has_16 (by decide) ?_
    cases h
    exact o_rz (v := (0:Int32)) C o_nar0 hP hS d_Tx_has_17
  · replace h := o_ff c1 h
    refine lv_iload_n hx hb d_Tx_has_4 rfl (lv_at hl 1 rfl) ?_
    refine lv_aload_n hx hb d_Tx_has_5 rfl (lv_at hl 0 rfl) ?_
    refine o_get (v := .int (Tx_total a0)) C in_Tx hP 1 cw_1 rfl 10 (by decide) k_1_56 rfl rfl d_Tx_has_6 ?_
    refine lv_icmp_ge (tgt := 16) hx hb d_Tx_has_9 (by decide) (fun c2 => ?_) (fun c2 => ?_)
    · replace h := o_tt c2 h
      refine lv_iconst (v := (0:Int32)) hx hb d_Tx_has_16 (by decide) ?_
      cases h
      exact o_rz (v := (0:Int32)) C o_nar0 hP hS d_Tx_has_17
    · replace h := o_ff c2 h
      refine lv_iconst (v := (1:Int32)) hx hb d_Tx_has_12 (by decide) ?_
      refine lv_goto (tgt := 17) hx hb d_Tx_has_13 (by decide) ?_
      cases h
      exact o_rz (v := (1:Int32)) C o_nar1 hP hS d_Tx_has_17
set_option maxHeartbeats 4000000 in
set_option maxRecDepth 100000 in
theorem c_Tx_has_1 {E : (Nat → Prop) → State → Heap → Prop} {D : va_G} {ad : Nat → Nat} {ca : Nat → ClassId} (hE : o_Ek E) (l : Launch) (x1 : Int32) (a0 : STx) (Sj : SSJ) (T0 : STx) (Rd : SRd) (Pg : SPg) (Pt : SPt) (Mk : SMk) (Lk : SLk) (Ck : SCk) (Jd : SJd) (Ld : SLd) (Pr : SPr) (rt : Nat) {r : Int32} (h : m_Tx_has x1 a0 = some r) : o_Cn E l D o_cls (o_tys ca) y_Tx_has cc_Tx_has rm_Tx_has [.ref (ad 12), .int x1] (o_cw ad ca rt Sj T0 a0 Rd Pg Pt Mk Lk Ck Jd Ld Pr) (o_cw ad ca rt Sj T0 a0 Rd Pg Pt Mk Lk Ck Jd Ld Pr) (some (.int r)) := by
  refine o_Cn_of (by decide) (Nat.le_of_ble_eq_true rfl) ?_
  intro p e s m below meth c A ls C hD hP hS hl
  have hDD : ∀ (rt : Nat) (Sj : SSJ) (T0 : STx) (T1 : STx) (Rd : SRd) (Pg : SPg) (Pt : SPt) (Mk : SMk) (Lk : SLk) (Ck : SCk) (Jd : SJd) (Ld : SLd) (Pr : SPr), va_D A (o_cw ad ca rt Sj T0 T1 Rd Pg Pt Mk Lk Ck Jd Ld Pr) := fun _ _ _ _ _ _ _ _ _ _ _ _ _ => o_D_map hD rfl
  have hl : lv_has ls 2 [(0, .ref (ad 12)), (1, .int x1)] := hl
  unfold m_Tx_has at h
  have C0 := C
  obtain ⟨hx, hb, -, -, -, hown, hts, hK, -, -⟩ := C0
  refine lv_iload_n hx hb d_Tx_has_0 rfl (lv_at hl 1 rfl) ?_
  refine lv_if_lt (tgt := 16) hx hb d_Tx_has_1 (by decide) (fun c1 => ?_) (fun c1 => ?_)
  · replace h := o_tt c1 h
    refine lv_iconst (v := (0:Int32)) hx hb d_Tx_has_16 (by decide) ?_
    cases h
    exact o_rz (v := (0:Int32)) C o_nar0 hP hS d_Tx_has_17
  · replace h := o_ff c1 h
    refine lv_iload_n hx hb d_Tx_has_4 rfl (lv_at hl 1 rfl) ?_
    refine lv_aload_n hx hb d_Tx_has_5 rfl (lv_at hl 0 rfl) ?_
    refine o_get (v := .int (Tx_total a0)) C in_Tx hP 12 cw_12 rfl 10 (by decide) k_1_56 rfl rfl d_Tx_has_6 ?_
    refine lv_icmp_ge (tgt := 16) hx hb d_Tx_has_9 (by decide) (fun c2 => ?_) (fun c2 => ?_)
    · replace h := o_tt c2 h
      refine lv_iconst (v := (0:Int32)) hx hb d_Tx_has_16 (by decide) ?_
      cases h
      exact o_rz (v := (0:Int32)) C o_nar0 hP hS d_Tx_has_17
    · replace h := o_ff c2 h
      refine lv_iconst (v := (1:Int32)) hx hb d_Tx_has_12 (by decide) ?_
      refine lv_goto (tgt := 17) hx hb d_Tx_has_13 (by decide) ?_
      cases h
      exact o_rz (v := (1:Int32)) C o_nar1 hP hS d_Tx_has_17
