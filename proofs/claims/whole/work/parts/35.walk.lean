set_option maxHeartbeats 4000000 in
set_option maxRecDepth 100000 in
theorem c_Tx_cell_1 {E : (Nat → Prop) → State → Heap → Prop} {D : va_G} {ad kd sd : Nat → Nat} {ca : Nat → ClassId} (hE : o_EK E kd sd) (l : Launch) (x1 : Int32) (x2 : Int32) (a0 : STx) (Sj : SSJ) (T0 : STx) (Rd : SRd) (Pg : SPg) (Pt : SPt) (Mk : SMk) (Lk : SLk) (Ck : SCk) (Jd : SJd) (Ld : SLd) (Pr : SPr) (rt : Nat) {r : Int32} (h : m_Tx_cell x1 x2 a0 = some r) : o_Cn E l D o_cls (o_tys ca) y_Tx_cell cc_Tx_cell rm_Tx_cell [.ref (ad 12), .int x1, .int x2] (o_cw ad ca rt Sj T0 a0 Rd Pg Pt Mk Lk Ck Jd Ld Pr) (o_cw ad ca rt Sj T0 a0 Rd Pg Pt Mk Lk Ck Jd Ld Pr) (some (.int r)) := by
  refine o_Cn_of (by decide) (Nat.le_of_ble_eq_true rfl) ?_
  intro p e s m below meth c A ls C hD hP hS hl
  have hDD : ∀ (rt : Nat) (Sj : SSJ) (T0 : STx) (T1 : STx) (Rd : SRd) (Pg : SPg) (Pt : SPt) (Mk : SMk) (Lk : SLk) (Ck : SCk) (Jd : SJd) (Ld : SLd) (Pr : SPr), va_D A (o_cw ad ca rt Sj T0 T1 Rd Pg Pt Mk Lk Ck Jd Ld Pr) := fun _ _ _ _ _ _ _ _ _ _ _ _ _ => o_D_map hD rfl
  have hl : lv_has ls 4 [(0, .ref (ad 12)), (1, .int x1), (2, .int x2)] := hl
  unfold m_Tx_cell at h
  have C0 := C
  obtain ⟨hx, hb, -, -, -, hown, hts, hK, -, -⟩ := C0
  refine lv_iload_n hx hb d_Tx_cell_0 rfl (lv_at hl 1 rfl) ?_
  refine lv_if_lt (tgt := 26) hx hb d_Tx_cell_1 (by decide) (fun c1 => ?_) (fun c1 => ?_)
  · replace h := o_tt c1 h
    refine lv_iconst (v := (0:Int32)) hx hb d_Tx_cell_26 (by decide) ?_
    cases h
    exact o_ri (v := (0:Int32)) C hP hS d_Tx_cell_27
  · replace h := o_ff c1 h
    refine lv_iload_n hx hb d_Tx_cell_4 rfl (lv_at hl 1 rfl) ?_
    refine lv_aload_n hx hb d_Tx_cell_5 rfl (lv_at hl 0 rfl) ?_
    refine o_get (v := .int (Tx_total a0)) C in_Tx hP 12 cw_12 rfl 10 (by decide) k_1_56 rfl rfl d_Tx_cell_6 ?_
    refine lv_icmp_ge (tgt := 26) hx hb d_Tx_cell_9 (by decide) (fun c2 => ?_) (fun c2 => ?_)
    · replace h := o_tt c2 h
      refine lv_iconst (v := (0:Int32)) hx hb d_Tx_cell_26 (by decide) ?_
      cases h
      exact o_ri (v := (0:Int32)) C hP hS d_Tx_cell_27
    · replace h := o_ff c2 h
      refine lv_iload_n hx hb d_Tx_cell_12 rfl (lv_at hl 2 rfl) ?_
      refine lv_if_lt (tgt := 26) hx hb d_Tx_cell_13 (by decide) (fun c3 => ?_) (fun c3 => ?_)
      · replace h := o_tt c3 h
        refine lv_iconst (v := (0:Int32)) hx hb d_Tx_cell_26 (by decide) ?_
        cases h
        exact o_ri (v := (0:Int32)) C hP hS d_Tx_cell_27
      · replace h := o_ff c3 h
        refine lv_iload_n hx hb d_Tx_cell_16 rfl (lv_at hl 2 rfl) ?_
        refine lv_aload_n hx hb d_Tx_cell_17 rfl (lv_at hl 0 rfl) ?_
        refine o_get (v := .ref (ad 15)) C in_Tx hP 12 cw_12 rfl 2 (by decide) k_1_48 rfl rfl d_Tx_cell_18 ?_
        refine lv_iload_n hx hb d_Tx_cell_21 rfl (lv_at hl 1 rfl) ?_
        obtain ⟨g4, h⟩ := o_gd_some h
        refine o_iald (f := (Tx_sizes a0)) C hP 15 12 cw_15 rfl g4 d_Tx_cell_22 ?_
        refine lv_icmp_lt (tgt := 28) hx hb d_Tx_cell_23 (by decide) (fun c5 => ?_) (fun c5 => ?_)
        · replace h := o_tt c5 h
          refine lv_aload_n hx hb d_Tx_cell_28 rfl (lv_at hl 0 rfl) ?_
          refine o_get (v := .ref (ad 18)) C in_Tx hP 12 cw_12 rfl 5 (by decide) k_1_51 rfl rfl d_Tx_cell_29 ?_
          refine lv_iload_n hx hb d_Tx_cell_32 rfl (lv_at hl 1 rfl) ?_
          obtain ⟨g6, h⟩ := o_gd_some h
          refine o_iald (f := (Tx_starts a0)) C hP 18 15 cw_18 rfl g6 d_Tx_cell_33 ?_
          refine lv_iload_n hx hb d_Tx_cell_34 rfl (lv_at hl 2 rfl) ?_
          refine lv_iadd hx hb d_Tx_cell_35 ?_
          refine lv_topi (fun x3_36 ex3_36 => ?_)
          replace h := o_nm_at ex3_36 h
          refine lv_istore_n (lv' := [(3, .int x3_36), (0, .ref (ad 12)), (1, .int x1), (2, .int x2)]) hx hb d_Tx_cell_36 rfl hl (by decide) rfl (fun ls hl => ?_)
          refine lv_iload_n hx hb d_Tx_cell_37 rfl (lv_at hl 0 rfl) ?_
          refine lv_if_lt (tgt := 59) hx hb d_Tx_cell_38 (by decide) (fun c7 => ?_) (fun c7 => ?_)
          · replace h := o_tt c7 h
            refine lv_iconst (v := (0:Int32)) hx hb d_Tx_cell_59 (by decide) ?_
            cases h
            exact o_ri (v := (0:Int32)) C hP hS d_Tx_cell_60
          · replace h := o_ff c7 h
            refine lv_iload_n hx hb d_Tx_cell_41 rfl (lv_at hl 0 rfl) ?_
            refine lv_aload_n hx hb d_Tx_cell_42 rfl (lv_at hl 1 rfl) ?_
            refine o_get (v := .ref (ad 22)) C in_Tx hP 12 cw_12 rfl 9 (by decide) k_1_55 rfl rfl d_Tx_cell_43 ?_
            refine va_alen (v := (8192:Int32)) hx hb hK hP 22 19 cw_22 rfl rfl d_Tx_cell_46 ?_
            refine lv_icmp_ge (tgt := 59) hx hb d_Tx_cell_47 (by decide) (fun c8 => ?_) (fun c8 => ?_)
            · replace h := o_tt c8 h
              refine lv_iconst (v := (0:Int32)) hx hb d_Tx_cell_59 (by decide) ?_
              cases h
              exact o_ri (v := (0:Int32)) C hP hS d_Tx_cell_60
            · replace h := o_ff c8 h
              refine lv_aload_n hx hb d_Tx_cell_50 rfl (lv_at hl 1 rfl) ?_
              refine o_get (v := .ref (ad 22)) C in_Tx hP 12 cw_12 rfl 9 (by decide) k_1_55 rfl rfl d_Tx_cell_51 ?_
              refine lv_iload_n hx hb d_Tx_cell_54 rfl (lv_at hl 0 rfl) ?_
              obtain ⟨g9, h⟩ := o_gd_some h
              refine o_iald (f := (Tx_cells a0)) C hP 22 19 cw_22 rfl g9 d_Tx_cell_55 ?_
              refine lv_goto (tgt := 60) hx hb d_Tx_cell_56 (by decide) ?_
              cases h
              exact o_ri (v := ((Tx_cells a0) x3_36.toNatClampNeg)) C hP hS d_Tx_cell_60
        · replace h := o_ff c5 h
          refine lv_iconst (v := (0:Int32)) hx hb d_Tx_cell_26 (by decide) ?_
          cases h
          exact o_ri (v := (0:Int32)) C hP hS d_Tx_cell_27
set_option maxHeartbeats 4000000 in
set_option maxRecDepth 100000 in
theorem c_Tx_sign_0 {E : (Nat → Prop) → State → Heap → Prop} {D : va_G} {ad kd sd : Nat → Nat} {ca : Nat → ClassId} (hE : o_EK E kd sd) (l : Launch) (x1 : Int32) (a0 : STx) (Sj : SSJ) (T1 : STx) (Rd : SRd) (Pg : SPg) (Pt : SPt) (Mk : SMk) (Lk : SLk) (Ck : SCk) (Jd : SJd) (Ld : SLd) (Pr : SPr) (rt : Nat) {r : Int32} (h : m_Tx_sign x1 a0 = some r) : o_Cn E l D o_cls (o_tys ca) y_Tx_sign cc_Tx_sign rm_Tx_sign [.ref (ad 1), .int x1] (o_cw ad ca rt Sj a0 T1 Rd Pg Pt Mk Lk Ck Jd Ld Pr) (o_cw ad ca rt Sj a0 T1 Rd Pg Pt Mk Lk Ck Jd Ld Pr) (some (.int r)) := by
  refine o_Cn_of (by decide) (Nat.le_of_ble_eq_true rfl) ?_
  intro p e s m below meth c A ls C hD hP hS hl
  have hDD : ∀ (rt : Nat) (Sj : SSJ) (T0 : STx) (T1 : STx) (Rd : SRd) (Pg : SPg) (Pt : SPt) (Mk : SMk) (Lk : SLk) (Ck : SCk) (Jd : SJd) (Ld : SLd) (Pr : SPr), va_D A (o_cw ad ca rt Sj T0 T1 Rd Pg Pt Mk Lk Ck Jd Ld Pr) := fun _ _ _ _ _ _ _ _ _ _ _ _ _ => o_D_map hD rfl
  have hl : lv_has ls 2 [(0, .ref (ad 1)), (1, .int x1)] := hl
  unfold m_Tx_sign at h
  have C0 := C
  obtain ⟨hx, hb, -, -, -, hown, hts, hK, -, -⟩ := C0
  refine lv_iload_n hx hb d_Tx_sign_0 rfl (lv_at hl 1 rfl) ?_
  refine lv_if_lt (tgt := 21) hx hb d_Tx_sign_1 (by decide) (fun c1 => ?_) (fun c1 => ?_)
  · replace h := o_tt c1 h
    refine lv_iconst (v := (0:Int32)) hx hb d_Tx_sign_21 (by decide) ?_
    cases h
    exact o_ri (v := (0:Int32)) C hP hS d_Tx_sign_22
  · replace h := o_ff c1 h
    refine lv_iload_n hx hb d_Tx_sign_4 rfl (lv_at hl 1 rfl) ?_
    refine lv_aload_n hx hb d_Tx_sign_5 rfl (lv_at hl 0 rfl) ?_
    refine o_get (v := .int (Tx_total a0)) C in_Tx hP 1 cw_1 rfl 10 (by decide) k_1_56 rfl rfl d_Tx_sign_6 ?_
    refine lv_icmp_ge (tgt := 21) hx hb d_Tx_sign_9 (by decide) (fun c2 => ?_) (fun c2 => ?_)
    · replace h := o_tt c2 h
      refine lv_iconst (v := (0:Int32)) hx hb d_Tx_sign_21 (by decide) ?_
      cases h
      exact o_ri (v := (0:Int32)) C hP hS d_Tx_sign_22
    · replace h := o_ff c2 h
      refine lv_aload_n hx hb d_Tx_sign_12 rfl (lv_at hl 0 rfl) ?_
      refine o_get (v := .ref (ad 4)) C in_Tx hP 1 cw_1 rfl 2 (by decide) k_1_48 rfl rfl d_Tx_sign_13 ?_
      refine lv_iload_n hx hb d_Tx_sign_16 rfl (lv_at hl 1 rfl) ?_
      obtain ⟨g3, h⟩ := o_gd_some h
      refine o_iald (f := (Tx_sizes a0)) C hP 4 2 cw_4 rfl g3 d_Tx_sign_17 ?_
      refine lv_if_ne (tgt := 23) hx hb d_Tx_sign_18 (by decide) (fun c4 => ?_) (fun c4 => ?_)
      · replace h := o_ff c4 h
        refine lv_aload_n hx hb d_Tx_sign_23 rfl (lv_at hl 0 rfl) ?_
        refine o_get (v := .ref (ad 10)) C in_Tx hP 1 cw_1 rfl 8 (by decide) k_1_54 rfl rfl d_Tx_sign_24 ?_
        refine lv_iload_n hx hb d_Tx_sign_27 rfl (lv_at hl 1 rfl) ?_
        obtain ⟨g5, h⟩ := o_gd_some h
        refine o_zald (f := (Tx_negatives a0)) C hP 10 8 cw_10 rfl g5 d_Tx_sign_28 ?_
        refine lv_if_eq (tgt := 36) hx hb d_Tx_sign_29 (by decide) (fun c6 => ?_) (fun c6 => ?_)
        · replace h := o_tt c6 h
          refine lv_iconst (v := (1:Int32)) hx hb d_Tx_sign_36 (by decide) ?_
          cases h
          exact o_ri (v := (1:Int32)) C hP hS d_Tx_sign_37
        · replace h := o_ff c6 h
          refine lv_iconst (v := (-1:Int32)) hx hb d_Tx_sign_32 (by decide) ?_
          refine lv_goto (tgt := 37) hx hb d_Tx_sign_33 (by decide) ?_
          cases h
          exact o_ri (v := (-1:Int32)) C hP hS d_Tx_sign_37
      · replace h := o_tt c4 h
        refine lv_iconst (v := (0:Int32)) hx hb d_Tx_sign_21 (by decide) ?_
        cases h
        exact o_ri (v := (0:Int32)) C hP hS d_Tx_sign_22
set_option maxHeartbeats 4000000 in
set_option maxRecDepth 100000 in
theorem c_Tx_sign_1 {E : (Nat → Prop) → State → Heap → Prop} {D : va_G} {ad kd sd : Nat → Nat} {ca : Nat → ClassId} (hE : o_EK E kd sd) (l : Launch) (x1 : Int32) (a0 : STx) (Sj : SSJ) (T0 : STx) (Rd : SRd) (Pg : SPg) (Pt : SPt) (Mk : SMk) (Lk : SLk) (Ck : SCk) (Jd : SJd) (Ld : SLd) (Pr : SPr) (rt : Nat) {r : Int32} (h : m_Tx_sign x1 a0 = some r) : o_Cn E l D o_cls (o_tys ca) y_Tx_sign cc_Tx_sign rm_Tx_sign [.ref (ad 12), .int x1] (o_cw ad ca rt Sj T0 a0 Rd Pg Pt Mk Lk Ck Jd Ld Pr) (o_cw ad ca rt Sj T0 a0 Rd Pg Pt Mk Lk Ck Jd Ld Pr) (some (.int r)) := by
  refine o_Cn_of (by decide) (Nat.le_of_ble_eq_true rfl) ?_
  intro p e s m below meth c A ls C hD hP hS hl
  have hDD : ∀ (rt : Nat) (Sj : SSJ) (T0 : STx) (T1 : STx) (Rd : SRd) (Pg : SPg) (Pt : SPt) (Mk : SMk) (Lk : SLk) (Ck : SCk) (Jd : SJd) (Ld : SLd) (Pr : SPr), va_D A (o_cw ad ca rt Sj T0 T1 Rd Pg Pt Mk Lk Ck Jd Ld Pr) := fun _ _ _ _ _ _ _ _ _ _ _ _ _ => o_D_map hD rfl
  have hl : lv_has ls 2 [(0, .ref (ad 12)), (1, .int x1)] := hl
  unfold m_Tx_sign at h
  have C0 := C
  obtain ⟨hx, hb, -, -, -, hown, hts, hK, -, -⟩ := C0
  refine lv_iload_n hx hb d_Tx_sign_0 rfl (lv_at hl 1 rfl) ?_
  refine lv_if_lt (tgt := 21) hx hb d_Tx_sign_1 (by decide) (fun c1 => ?_) (fun c1 => ?_)
  · replace h := o_tt c1 h
    refine lv_iconst (v := (0:Int32)) hx hb d_Tx_sign_21 (by decide) ?_
    cases h
    exact o_ri (v := (0:Int32)) C hP hS d_Tx_sign_22
  · replace h := o_ff c1 h
    refine lv_iload_n hx hb d_Tx_sign_4 rfl (lv_at hl 1 rfl) ?_
    refine lv_aload_n hx hb d_Tx_sign_5 rfl (lv_at hl 0 rfl) ?_
    refine o_get (v := .int (Tx_total a0)) C in_Tx hP 12 cw_12 rfl 10 (by decide) k_1_56 rfl rfl d_Tx_sign_6 ?_
    refine lv_icmp_ge (tgt := 21) hx hb d_Tx_sign_9 (by decide) (fun c2 => ?_) (fun c2 => ?_)
    · replace h := o_tt c2 h
      refine lv_iconst (v := (0:Int32)) hx hb d_Tx_sign_21 (by decide) ?_
      cases h
      exact o_ri (v := (0:Int32)) C hP hS d_Tx_sign_22
    · replace h := o_ff c2 h
      refine lv_aload_n hx hb d_Tx_sign_12 rfl (lv_at hl 0 rfl) ?_
      refine o_get (v := .ref (ad 15)) C in_Tx hP 12 cw_12 rfl 2 (by decide) k_1_48 rfl rfl d_Tx_sign_13 ?_
      refine lv_iload_n hx hb d_Tx_sign_16 rfl (lv_at hl 1 rfl) ?_
      obtain ⟨g3, h⟩ := o_gd_some h
      refine o_iald (f := (Tx_sizes a0)) C hP 15 12 cw_15 rfl g3 d_Tx_sign_17 ?_
      refine lv_if_ne (tgt := 23) hx hb d_Tx_sign_18 (by decide) (fun c4 => ?_) (fun c4 => ?_)
      · replace h := o_ff c4 h
        refine lv_aload_n hx hb d_Tx_sign_23 rfl (lv_at hl 0 rfl) ?_
        refine o_get (v := .ref (ad 21)) C in_Tx hP 12 cw_12 rfl 8 (by decide) k_1_54 rfl rfl d_Tx_sign_24 ?_
        refine lv_iload_n hx hb d_Tx_sign_27 rfl (lv_at hl 1 rfl) ?_
        obtain ⟨g5, h⟩ := o_gd_some h
        refine o_zald (f := (Tx_negatives a0)) C hP 21 18 cw_21 rfl g5 d_Tx_sign_28 ?_
        refine lv_if_eq (tgt := 36) hx hb d_Tx_sign_29 (by decide) (fun c6 => ?_) (fun c6 => ?_)
        · replace h := o_tt c6 h
          refine lv_iconst (v := (1:Int32)) hx hb d_Tx_sign_36 (by decide) ?_
          cases h
          exact o_ri (v := (1:Int32)) C hP hS d_Tx_sign_37
        · replace h := o_ff c6 h
          refine lv_iconst (v := (-1:Int32)) hx hb d_Tx_sign_32 (by decide) ?_
          refine lv_goto (tgt := 37) hx hb d_Tx_sign_33 (by decide) ?_
          cases h
          exact o_ri (v := (-1:Int32)) C hP hS d_Tx_sign_37
      · replace h := o_tt c4 h
        refine lv_iconst (v := (0:Int32)) hx hb d_Tx_sign_21 (by decide) ?_
        cases h
        exact o_ri (v := (0:Int32)) C hP hS d_Tx_sign_22
set_option maxHeartbeats 4000000 in
set_option maxRecDepth 100000 in
theorem c_Tx_exponent_0 {E : (Nat → Prop) → State → Heap → Prop} {D : va_G} {ad kd sd : Nat → Nat} {ca : Nat → ClassId} (hE : o_EK E kd sd) (l : Launch) (x1 : Int32) (a0 : STx) (Sj : SSJ) (T1 : STx) (Rd : SRd) (Pg : SPg) (Pt : SPt) (Mk : SMk) (Lk : SLk) (Ck : SCk) (Jd : SJd) (Ld : SLd) (Pr : SPr) (rt : Nat) {r : Int32} (h : m_Tx_exponent x1 a0 = some r) : o_Cn E l D o_cls (o_tys ca) y_Tx_exponent cc_Tx_exponent rm_Tx_exponent [.ref (ad 1), .int x1] (o_cw ad ca rt Sj a0 T1 Rd Pg Pt Mk Lk Ck Jd Ld Pr) (o_cw ad ca rt Sj a0 T1 Rd Pg Pt Mk Lk Ck Jd Ld Pr) (some (.int r)) := by
  refine o_Cn_of (by decide) (Nat.le_of_ble_eq_true rfl) ?_
  intro p e s m below meth c A ls C hD hP hS hl
  have hDD : ∀ (rt : Nat) (Sj : SSJ) (T0 : STx) (T1 : STx) (Rd : SRd) (Pg : SPg) (Pt : SPt) (Mk : SMk) (Lk : SLk) (Ck : SCk) (Jd : SJd) (Ld : SLd) (Pr : SPr), va_D A (o_cw ad ca rt Sj T0 T1 Rd Pg Pt Mk Lk Ck Jd Ld Pr) := fun _ _ _ _ _ _ _ _ _ _ _ _ _ => o_D_map hD rfl
  have hl : lv_has ls 2 [(0, .ref (ad 1)), (1, .int x1)] := hl
  unfold m_Tx_exponent at h
  have C0 := C
  obtain ⟨hx, hb, -, -, -, hown, hts, hK, -, -⟩ := C0
  refine lv_iload_n hx hb d_Tx_exponent_0 rfl (lv_at hl 1 rfl) ?_
  refine lv_if_lt (tgt := 21) hx hb d_Tx_exponent_1 (by decide) (fun c1 => ?_) (fun c1 => ?_)
  · replace h := o_tt c1 h
    refine lv_iconst (v := (0:Int32)) hx hb d_Tx_exponent_21 (by decide) ?_
    cases h
    exact o_ri (v := (0:Int32)) C hP hS d_Tx_exponent_22
  · replace h := o_ff c1 h
    refine lv_iload_n hx hb d_Tx_exponent_4 rfl (lv_at hl 1 rfl) ?_
    refine lv_aload_n hx hb d_Tx_exponent_5 rfl (lv_at hl 0 rfl) ?_
    refine o_get (v := .int (Tx_total a0)) C in_Tx hP 1 cw_1 rfl 10 (by decide) k_1_56 rfl rfl d_Tx_exponent_6 ?_
    refine lv_icmp_ge (tgt := 21) hx hb d_Tx_exponent_9 (by decide) (fun c2 => ?_) (fun c2 => ?_)
    · replace h := o_tt c2 h
      refine lv_iconst (v := (0:Int32)) hx hb d_Tx_exponent_21 (by decide) ?_
      cases h
      exact o_ri (v := (0:Int32)) C hP hS d_Tx_exponent_22
    · replace h := o_ff c2 h
      refine lv_aload_n hx hb d_Tx_exponent_12 rfl (lv_at hl 0 rfl) ?_
      refine o_get (v := .ref (ad 6)) C in_Tx hP 1 cw_1 rfl 4 (by decide) k_1_50 rfl rfl d_Tx_exponent_13 ?_
      refine lv_iload_n hx hb d_Tx_exponent_16 rfl (lv_at hl 1 rfl) ?_
      obtain ⟨g3, h⟩ := o_gd_some h
      refine o_iald (f := (Tx_exponents a0)) C hP 6 4 cw_6 rfl g3 d_Tx_exponent_17 ?_
      refine lv_goto (tgt := 22) hx hb d_Tx_exponent_18 (by decide) ?_
      cases h
      exact o_ri (v := ((Tx_exponents a0) x1.toNatClampNeg)) C hP hS d_Tx_exponent_22
set_option maxHeartbeats 4000000 in
set_option maxRecDepth 100000 in
theorem c_Tx_exponent_1 {E : (Nat → Prop) → State → Heap → Prop} {D : va_G} {ad kd sd : Nat → Nat} {ca : Nat → ClassId} (hE : o_EK E kd sd) (l : Launch) (x1 : Int32) (a0 : STx) (Sj : SSJ) (T0 : STx) (Rd : SRd) (Pg : SPg) (Pt : SPt) (Mk : SMk) (Lk : SLk) (Ck : SCk) (Jd : SJd) (Ld : SLd) (Pr : SPr) (rt : Nat) {r : Int32} (h : m_Tx_exponent x1 a0 = some r) : o_Cn E l D o_cls (o_tys ca) y_Tx_exponent cc_Tx_exponent rm_Tx_exponent [.ref (ad 12), .int x1] (o_cw ad ca rt Sj T0 a0 Rd Pg Pt Mk Lk Ck Jd Ld Pr) (o_cw ad ca rt Sj T0 a0 Rd Pg Pt Mk Lk Ck Jd Ld Pr) (some (.int r)) := by
  refine o_Cn_of (by decide) (Nat.le_of_ble_eq_true rfl) ?_
  intro p e s m below meth c A ls C hD hP hS hl
  have hDD : ∀ (rt : Nat) (Sj : SSJ) (T0 : STx) (T1 : STx) (Rd : SRd) (Pg : SPg) (Pt : SPt) (Mk : SMk) (Lk : SLk) (Ck : SCk) (Jd : SJd) (Ld : SLd) (Pr : SPr), va_D A (o_cw ad ca rt Sj T0 T1 Rd Pg Pt Mk Lk Ck Jd Ld Pr) := fun _ _ _ _ _ _ _ _ _ _ _ _ _ => o_D_map hD rfl
  have hl : lv_has ls 2 [(0, .ref (ad 12)), (1, .int x1)] := hl
  unfold m_Tx_exponent at h
  have C0 := C
  obtain ⟨hx, hb, -, -, -, hown, hts, hK, -, -⟩ := C0
  refine lv_iload_n hx hb d_Tx_exponent_0 rfl (lv_at hl 1 rfl) ?_
  refine lv_if_lt (tgt := 21) hx hb d_Tx_exponent_1 (by decide) (fun c1 => ?_) (fun c1 => ?_)
  · replace h := o_tt c1 h
    refine lv_iconst (v := (0:Int32)) hx hb d_Tx_exponent_21 (by decide) ?_
    cases h
    exact o_ri (v := (0:Int32)) C hP hS d_Tx_exponent_22
  · replace h := o_ff c1 h
    refine lv_iload_n hx hb d_Tx_exponent_4 rfl (lv_at hl 1 rfl) ?_
    refine lv_aload_n hx hb d_Tx_exponent_5 rfl (lv_at hl 0 rfl) ?_
    refine o_get (v := .int (Tx_total a0)) C in_Tx hP 12 cw_12 rfl 10 (by decide) k_1_56 rfl rfl d_Tx_exponent_6 ?_
    refine lv_icmp_ge (tgt := 21) hx hb d_Tx_exponent_9 (by decide) (fun c2 => ?_) (fun c2 => ?_)
    · replace h := o_tt c2 h
      refine lv_iconst (v := (0:Int32)) hx hb d_Tx_exponent_21 (by decide) ?_
      cases h
      exact o_ri (v := (0:Int32)) C hP hS d_Tx_exponent_22
    · replace h := o_ff c2 h
      refine lv_aload_n hx hb d_Tx_exponent_12 rfl (lv_at hl 0 rfl) ?_
      refine o_get (v := .ref (ad 17)) C in_Tx hP 12 cw_12 rfl 4 (by decide) k_1_50 rfl rfl d_Tx_exponent_13 ?_
      refine lv_iload_n hx hb d_Tx_exponent_16 rfl (lv_at hl 1 rfl) ?_
      obtain ⟨g3, h⟩ := o_gd_some h
      refine o_iald (f := (Tx_exponents a0)) C hP 17 14 cw_17 rfl g3 d_Tx_exponent_17 ?_
      refine lv_goto (tgt := 22) hx hb d_Tx_exponent_18 (by decide) ?_
      cases h
      exact o_ri (v := ((Tx_exponents a0) x1.toNatClampNeg)) C hP hS d_Tx_exponent_22
set_option maxHeartbeats 4000000 in
set_option maxRecDepth 100000 in
theorem w_Tx_wholeNumber_b47_0 {E : (Nat → Prop) → State → Heap → Prop} {p : Program} {l : Launch} {e : Env} {s : State} {m : MethodId} {args : Array Value} {below : List Frame} {meth : Method} {c : Code} {D : va_G} {ad kd sd : Nat → Nat} {ca : Nat → ClassId} {A : Nat → Prop} {Q : State → Prop} (hE : o_EK E kd sd) (C : o_Cx E p s m args meth c D o_cls (o_tys ca) "SchemaJudge$Text" b_Tx_wholeNumber (some .int) 4 cc_Tx_wholeNumber A) (hDD : ∀ (rt : Nat) (Sj : SSJ) (T0 : STx) (T1 : STx) (Rd : SRd) (Pg : SPg) (Pt : SPt) (Mk : SMk) (Lk : SLk) (Ck : SCk) (Jd : SJd) (Ld : SLd) (Pr : SPr), va_D A (o_cw ad ca rt Sj T0 T1 Rd Pg Pt Mk Lk Ck Jd Ld Pr)) (n : Nat) (u47_x1 : Int32) (u47_a0 : STx) (u47_Sj : SSJ) (u47_T1 : STx) (u47_Rd : SRd) (u47_Pg : SPg) (u47_Pt : SPt) (u47_Mk : SMk) (u47_Lk : SLk) (u47_Ck : SCk) (u47_Jd : SJd) (u47_Ld : SLd) (u47_Pr : SPr) (u47_rt : Nat) (z : Int32 × Int32) (q : Nat × Int32 × Int32) (h : m_Tx_wholeNumber_b47 n u47_x1 u47_a0 z = some q) (h0 : q.1 = 0 → o_At p l e rm_Tx_wholeNumber s m args below meth c Q o_cls D A 4 47 [] (o_cw ad ca u47_rt u47_Sj u47_a0 u47_T1 u47_Rd u47_Pg u47_Pt u47_Mk u47_Lk u47_Ck u47_Jd u47_Ld u47_Pr) [(0, .ref (ad 1)), (1, .int u47_x1), (2, .int q.2.1), (3, .int q.2.2)]) (h1 : q.1 ≠ 0 → (o_At p l e rm_Tx_wholeNumber s m args below meth c Q o_cls D A 4 80 [] (o_cw ad ca u47_rt u47_Sj u47_a0 u47_T1 u47_Rd u47_Pg u47_Pt u47_Mk u47_Lk u47_Ck u47_Jd u47_Ld u47_Pr) [(2, .int q.2.1)])) : o_At p l e rm_Tx_wholeNumber s m args below meth c Q o_cls D A 4 47 [] (o_cw ad ca u47_rt u47_Sj u47_a0 u47_T1 u47_Rd u47_Pg u47_Pt u47_Mk u47_Lk u47_Ck u47_Jd u47_Ld u47_Pr) [(0, .ref (ad 1)), (1, .int u47_x1), (2, .int z.1), (3, .int z.2)] := by
  unfold m_Tx_wholeNumber_b47 at h
  intro H locs ls hP hS hl
  have C0 := C
  obtain ⟨hx, hb, -, -, -, hown, hts, hK, -, -⟩ := C0
  refine lv_iload_n hx hb d_Tx_wholeNumber_47 rfl (lv_at hl 3 rfl) ?_
  refine lv_aload_n hx hb d_Tx_wholeNumber_48 rfl (lv_at hl 0 rfl) ?_
  refine lv_iload_n hx hb d_Tx_wholeNumber_49 rfl (lv_at hl 1 rfl) ?_
  obtain ⟨q6, hq6, h⟩ := o_bd_some h
  refine o_V (st1 := [.int q6, .int z.2]) (w1 := (o_cw ad ca u47_rt u47_Sj u47_a0 u47_T1 u47_Rd u47_Pg u47_Pt u47_Mk u47_Lk u47_Ck u47_Jd u47_Ld u47_Pr)) hE.1 C (c_Tx_size_0 hE l u47_x1 u47_a0 u47_Sj u47_T1 u47_Rd u47_Pg u47_Pt u47_Mk u47_Lk u47_Ck u47_Jd u47_Ld u47_Pr u47_rt hq6) hP (hDD _ _ _ _ _ _ _ _ _ _ _ _ _) hS hl.1 rfl cw_1 k_3_214 k_3_215 k_3_216 k_1_2 k_3_217 hv_Tx_size rfl rfl ⟨Nat.le_of_ble_eq_true rfl, Nat.le_of_ble_eq_true rfl⟩ rfl (Nat.le_of_ble_eq_true rfl) ⟨Nat.le_of_ble_eq_true rfl, Nat.le_of_ble_eq_true rfl⟩ rfl d_Tx_wholeNumber_50 (fun H locs hP hS => ?_)
  refine lv_aload_n hx hb d_Tx_wholeNumber_53 rfl (lv_at hl 0 rfl) ?_
  refine lv_iload_n hx hb d_Tx_wholeNumber_54 rfl (lv_at hl 1 rfl) ?_
  obtain ⟨q7, hq7, h⟩ := o_bd_some h
  refine o_V (st1 := [.int q7, .int q6, .int z.2]) (w1 := (o_cw ad ca u47_rt u47_Sj u47_a0 u47_T1 u47_Rd u47_Pg u47_Pt u47_Mk u47_Lk u47_Ck u47_Jd u47_Ld u47_Pr)) hE.1 C (c_Tx_exponent_0 hE l u47_x1 u47_a0 u47_Sj u47_T1 u47_Rd u47_Pg u47_Pt u47_Mk u47_Lk u47_Ck u47_Jd u47_Ld u47_Pr u47_rt hq7) hP (hDD _ _ _ _ _ _ _ _ _ _ _ _ _) hS hl.1 rfl cw_1 k_5_66 k_5_67 k_5_68 k_1_2 k_5_69 hv_Tx_exponent rfl rfl ⟨Nat.le_of_ble_eq_true rfl, Nat.le_of_ble_eq_true rfl⟩ rfl (Nat.le_of_ble_eq_true rfl) ⟨Nat.le_of_ble_eq_true rfl, Nat.le_of_ble_eq_true rfl⟩ rfl d_Tx_wholeNumber_55 (fun H locs hP hS => ?_)
  refine lv_iadd hx hb d_Tx_wholeNumber_58 ?_
  refine lv_icmp_ge (tgt := 80) hx hb d_Tx_wholeNumber_59 (by decide) (fun c5 => ?_) (fun c5 => ?_)
  · replace h := o_tt c5 h
    cases h
    exact h1 (Nat.succ_ne_zero 0) _ _ _ hP hS (lv_sub hl [2] rfl)
  · replace h := o_ff c5 h
    refine lv_iload_n hx hb d_Tx_wholeNumber_62 rfl (lv_at hl 2 rfl) ?_
    refine lv_bipush (v := (10:Int32)) hx hb d_Tx_wholeNumber_63 (by decide) ?_
    refine lv_imul hx hb d_Tx_wholeNumber_65 ?_
    refine lv_aload_n hx hb d_Tx_wholeNumber_66 rfl (lv_at hl 0 rfl) ?_
    refine lv_iload_n hx hb d_Tx_wholeNumber_67 rfl (lv_at hl 1 rfl) ?_
    refine lv_iload_n hx hb d_Tx_wholeNumber_68 rfl (lv_at hl 3 rfl) ?_
    obtain ⟨q8, hq8, h⟩ := o_bd_some h
    refine o_V (st1 := [.int q8, .int (z.1 * (10:Int32))]) (w1 := (o_cw ad ca u47_rt u47_Sj u47_a0 u47_T1 u47_Rd u47_Pg u47_Pt u47_Mk u47_Lk u47_Ck u47_Jd u47_Ld u47_Pr)) hE.1 C (c_Tx_cell_0 hE l u47_x1 z.2 u47_a0 u47_Sj u47_T1 u47_Rd u47_Pg u47_Pt u47_Mk u47_Lk u47_Ck u47_Jd u47_Ld u47_Pr u47_rt hq8) hP (hDD _ _ _ _ _ _ _ _ _ _ _ _ _) hS hl.1 rfl cw_1 k_5_70 k_4_117 k_4_118 k_1_2 k_4_119 hv_Tx_cell rfl rfl ⟨Nat.le_of_ble_eq_true rfl, Nat.le_of_ble_eq_true rfl⟩ rfl (Nat.le_of_ble_eq_true rfl) ⟨Nat.le_of_ble_eq_true rfl, Nat.le_of_ble_eq_true rfl⟩ rfl d_Tx_wholeNumber_69 (fun H locs hP hS => ?_)
    refine lv_iadd hx hb d_Tx_wholeNumber_72 ?_
    refine lv_topi (fun x2_73 ex2_73 => ?_)
    replace h := o_nm_at ex2_73 h
    refine lv_istore_n (lv' := [(2, .int x2_73), (0, .ref (ad 1)), (1, .int u47_x1), (3, .int z.2)]) hx hb d_Tx_wholeNumber_73 rfl hl (by decide) rfl (fun ls hl => ?_)
    obtain ⟨x3_74, ex3_74⟩ : ∃ y : Int32, y = z.2 + (1:Int32) := ⟨_, rfl⟩
    replace h := o_nm_at ex3_74 h
    refine lv_iinc (v := x3_74) (lv' := [(3, .int x3_74), (2, .int x2_73), (0, .ref (ad 1)), (1, .int u47_x1)]) hx hb d_Tx_wholeNumber_74 hl (k := 3) rfl (by rw [ex3_74]; rfl) (by decide) rfl (fun ls hl => ?_)
    refine lv_goto (tgt := 47) hx hb d_Tx_wholeNumber_77 (by decide) ?_
    cases h
    exact h0 rfl _ _ _ hP hS (lv_sub hl [2, 3, 1, 0] rfl)
set_option maxHeartbeats 4000000 in
set_option maxRecDepth 100000 in
theorem c_Tx_wholeNumber_0 {E : (Nat → Prop) → State → Heap → Prop} {D : va_G} {ad kd sd : Nat → Nat} {ca : Nat → ClassId} (hE : o_EK E kd sd) (l : Launch) (n : Nat) (x1 : Int32) (a0 : STx) (Sj : SSJ) (T1 : STx) (Rd : SRd) (Pg : SPg) (Pt : SPt) (Mk : SMk) (Lk : SLk) (Ck : SCk) (Jd : SJd) (Ld : SLd) (Pr : SPr) (rt : Nat) {r : Int32} (h : m_Tx_wholeNumber n x1 a0 = some r) : o_Cn E l D o_cls (o_tys ca) y_Tx_wholeNumber cc_Tx_wholeNumber rm_Tx_wholeNumber [.ref (ad 1), .int x1] (o_cw ad ca rt Sj a0 T1 Rd Pg Pt Mk Lk Ck Jd Ld Pr) (o_cw ad ca rt Sj a0 T1 Rd Pg Pt Mk Lk Ck Jd Ld Pr) (some (.int r)) := by
  refine o_Cn_of (by decide) (Nat.le_of_ble_eq_true rfl) ?_
  intro p e s m below meth c A ls C hD hP hS hl
  have hDD : ∀ (rt : Nat) (Sj : SSJ) (T0 : STx) (T1 : STx) (Rd : SRd) (Pg : SPg) (Pt : SPt) (Mk : SMk) (Lk : SLk) (Ck : SCk) (Jd : SJd) (Ld : SLd) (Pr : SPr), va_D A (o_cw ad ca rt Sj T0 T1 Rd Pg Pt Mk Lk Ck Jd Ld Pr) := fun _ _ _ _ _ _ _ _ _ _ _ _ _ => o_D_map hD rfl
  have hl : lv_has ls 4 [(0, .ref (ad 1)), (1, .int x1)] := hl
  unfold m_Tx_wholeNumber at h
  have C0 := C
  obtain ⟨hx, hb, -, -, -, hown, hts, hK, -, -⟩ := C0
  refine lv_aload_n hx hb d_Tx_wholeNumber_0 rfl (lv_at hl 0 rfl) ?_
  refine lv_iload_n hx hb d_Tx_wholeNumber_1 rfl (lv_at hl 1 rfl) ?_
  obtain ⟨q1, hq1, h⟩ := o_bd_some h
  refine o_V (st1 := [.int q1]) (w1 := (o_cw ad ca rt Sj a0 T1 Rd Pg Pt Mk Lk Ck Jd Ld Pr)) hE.1 C (c_Tx_kind_0 hE l x1 a0 Sj T1 Rd Pg Pt Mk Lk Ck Jd Ld Pr rt hq1) hP (hDD _ _ _ _ _ _ _ _ _ _ _ _ _) hS hl.1 rfl cw_1 k_5_64 k_4_50 k_4_51 k_1_2 k_4_52 hv_Tx_kind rfl rfl ⟨Nat.le_of_ble_eq_true rfl, Nat.le_of_ble_eq_true rfl⟩ rfl (Nat.le_of_ble_eq_true rfl) ⟨Nat.le_of_ble_eq_true rfl, Nat.le_of_ble_eq_true rfl⟩ rfl d_Tx_wholeNumber_2 (fun H locs hP hS => ?_)
  refine lv_iconst (v := (3:Int32)) hx hb d_Tx_wholeNumber_5 (by decide) ?_
  refine lv_icmp_ne (tgt := 41) hx hb d_Tx_wholeNumber_6 (by decide) (fun c1 => ?_) (fun c1 => ?_)
  · replace h := o_ff c1 h
    refine lv_iconst (v := (-1:Int32)) hx hb d_Tx_wholeNumber_41 (by decide) ?_
    cases h
    exact o_ri (v := (-1:Int32)) C hP hS d_Tx_wholeNumber_42
  · replace h := o_tt c1 h
    refine lv_aload_n hx hb d_Tx_wholeNumber_9 rfl (lv_at hl 0 rfl) ?_
    refine lv_iload_n hx hb d_Tx_wholeNumber_10 rfl (lv_at hl 1 rfl) ?_
    obtain ⟨q2, hq2, h⟩ := o_bd_some h
    refine o_V (st1 := [.int q2]) (w1 := (o_cw ad ca rt Sj a0 T1 Rd Pg Pt Mk Lk Ck Jd Ld Pr)) hE.1 C (c_Tx_sign_0 hE l x1 a0 Sj T1 Rd Pg Pt Mk Lk Ck Jd Ld Pr rt hq2) hP (hDD _ _ _ _ _ _ _ _ _ _ _ _ _) hS hl.1 rfl cw_1 k_5_65 k_5_57 k_5_58 k_1_2 k_5_59 hv_Tx_sign rfl rfl ⟨Nat.le_of_ble_eq_true rfl, Nat.le_of_ble_eq_true rfl⟩ rfl (Nat.le_of_ble_eq_true rfl) ⟨Nat.le_of_ble_eq_true rfl, Nat.le_of_ble_eq_true rfl⟩ rfl d_Tx_wholeNumber_11 (fun H locs hP hS => ?_)
    refine lv_if_lt (tgt := 41) hx hb d_Tx_wholeNumber_14 (by decide) (fun c2 => ?_) (fun c2 => ?_)
    · replace h := o_tt c2 h
      refine lv_iconst (v := (-1:Int32)) hx hb d_Tx_wholeNumber_41 (by decide) ?_
      cases h
      exact o_ri (v := (-1:Int32)) C hP hS d_Tx_wholeNumber_42
    · replace h := o_ff c2 h
      refine lv_aload_n hx hb d_Tx_wholeNumber_17 rfl (lv_at hl 0 rfl) ?_
      refine lv_iload_n hx hb d_Tx_wholeNumber_18 rfl (lv_at hl 1 rfl) ?_
      obtain ⟨q3, hq3, h⟩ := o_bd_some h
      refine o_V (st1 := [.int q3]) (w1 := (o_cw ad ca rt Sj a0 T1 Rd Pg Pt Mk Lk Ck Jd Ld Pr)) hE.1 C (c_Tx_exponent_0 hE l x1 a0 Sj T1 Rd Pg Pt Mk Lk Ck Jd Ld Pr rt hq3) hP (hDD _ _ _ _ _ _ _ _ _ _ _ _ _) hS hl.1 rfl cw_1 k_5_66 k_5_67 k_5_68 k_1_2 k_5_69 hv_Tx_exponent rfl rfl ⟨Nat.le_of_ble_eq_true rfl, Nat.le_of_ble_eq_true rfl⟩ rfl (Nat.le_of_ble_eq_true rfl) ⟨Nat.le_of_ble_eq_true rfl, Nat.le_of_ble_eq_true rfl⟩ rfl d_Tx_wholeNumber_19 (fun H locs hP hS => ?_)
      refine lv_if_lt (tgt := 41) hx hb d_Tx_wholeNumber_22 (by decide) (fun c3 => ?_) (fun c3 => ?_)
      · replace h := o_tt c3 h
        refine lv_iconst (v := (-1:Int32)) hx hb d_Tx_wholeNumber_41 (by decide) ?_
        cases h
        exact o_ri (v := (-1:Int32)) C hP hS d_Tx_wholeNumber_42
      · replace h := o_ff c3 h
        refine lv_aload_n hx hb d_Tx_wholeNumber_25 rfl (lv_at hl 0 rfl) ?_
        refine lv_iload_n hx hb d_Tx_wholeNumber_26 rfl (lv_at hl 1 rfl) ?_
        obtain ⟨q4, hq4, h⟩ := o_bd_some h
        refine o_V (st1 := [.int q4]) (w1 := (o_cw ad ca rt Sj a0 T1 Rd Pg Pt Mk Lk Ck Jd Ld Pr)) hE.1 C (c_Tx_size_0 hE l x1 a0 Sj T1 Rd Pg Pt Mk Lk Ck Jd Ld Pr rt hq4) hP (hDD _ _ _ _ _ _ _ _ _ _ _ _ _) hS hl.1 rfl cw_1 k_3_214 k_3_215 k_3_216 k_1_2 k_3_217 hv_Tx_size rfl rfl ⟨Nat.le_of_ble_eq_true rfl, Nat.le_of_ble_eq_true rfl⟩ rfl (Nat.le_of_ble_eq_true rfl) ⟨Nat.le_of_ble_eq_true rfl, Nat.le_of_ble_eq_true rfl⟩ rfl d_Tx_wholeNumber_27 (fun H locs hP hS => ?_)
        refine lv_aload_n hx hb d_Tx_wholeNumber_30 rfl (lv_at hl 0 rfl) ?_
        refine lv_iload_n hx hb d_Tx_wholeNumber_31 rfl (lv_at hl 1 rfl) ?_
        obtain ⟨q5, hq5, h⟩ := o_bd_some h
        refine o_V (st1 := [.int q5, .int q4]) (w1 := (o_cw ad ca rt Sj a0 T1 Rd Pg Pt Mk Lk Ck Jd Ld Pr)) hE.1 C (c_Tx_exponent_0 hE l x1 a0 Sj T1 Rd Pg Pt Mk Lk Ck Jd Ld Pr rt hq5) hP (hDD _ _ _ _ _ _ _ _ _ _ _ _ _) hS hl.1 rfl cw_1 k_5_66 k_5_67 k_5_68 k_1_2 k_5_69 hv_Tx_exponent rfl rfl ⟨Nat.le_of_ble_eq_true rfl, Nat.le_of_ble_eq_true rfl⟩ rfl (Nat.le_of_ble_eq_true rfl) ⟨Nat.le_of_ble_eq_true rfl, Nat.le_of_ble_eq_true rfl⟩ rfl d_Tx_wholeNumber_32 (fun H locs hP hS => ?_)
        refine lv_iadd hx hb d_Tx_wholeNumber_35 ?_
        refine lv_bipush (v := (7:Int32)) hx hb d_Tx_wholeNumber_36 (by decide) ?_
        refine lv_icmp_le (tgt := 43) hx hb d_Tx_wholeNumber_38 (by decide) (fun c4 => ?_) (fun c4 => ?_)
        · replace h := o_tt c4 h
          refine lv_iconst (v := (0:Int32)) hx hb d_Tx_wholeNumber_43 (by decide) ?_
          refine lv_istore_n (lv' := [(2, .int (0:Int32)), (0, .ref (ad 1)), (1, .int x1)]) hx hb d_Tx_wholeNumber_44 rfl hl (by decide) rfl (fun ls hl => ?_)
          refine lv_iconst (v := (0:Int32)) hx hb d_Tx_wholeNumber_45 (by decide) ?_
          refine lv_istore_n (lv' := [(3, .int (0:Int32)), (2, .int (0:Int32)), (0, .ref (ad 1)), (1, .int x1)]) hx hb d_Tx_wholeNumber_46 rfl hl (by decide) rfl (fun ls hl => ?_)
          obtain ⟨q9, hq9, h⟩ := o_bd_some h
          refine o_sim2 (AH := fun zz => o_At p l e rm_Tx_wholeNumber s m _ below meth c _ o_cls D A 4 47 [] (o_cw ad ca rt Sj a0 T1 Rd Pg Pt Mk Lk Ck Jd Ld Pr) [(0, .ref (ad 1)), (1, .int x1), (2, .int zz.1), (3, .int zz.2)]) (AX := fun qq => o_At p l e rm_Tx_wholeNumber s m _ below meth c _ o_cls D A 4 80 [] (o_cw ad ca rt Sj a0 T1 Rd Pg Pt Mk Lk Ck Jd Ld Pr) [(2, .int qq.2.1)]) (fun zz qq h h0 h1 => w_Tx_wholeNumber_b47_0 hE C hDD n x1 a0 Sj T1 Rd Pg Pt Mk Lk Ck Jd Ld Pr rt zz qq h h0 h1) n _ q9 hq9 ?_ _ _ _ hP hS (lv_sub hl [2, 3, 1, 0] rfl)
          intro H locs ls hP hS hl
          refine lv_iload_n hx hb d_Tx_wholeNumber_80 rfl (lv_at hl 0 rfl) ?_
          refine lv_ldc (v := (1000000:Int32)) hx hb hown (hts _ k_5_71) d_Tx_wholeNumber_81 ?_
          refine lv_icmp_le (tgt := 90) hx hb d_Tx_wholeNumber_83 (by decide) (fun c6 => ?_) (fun c6 => ?_)
          · replace h := o_tt c6 h
            refine lv_iload_n hx hb d_Tx_wholeNumber_90 rfl (lv_at hl 0 rfl) ?_
            cases h
            exact o_ri C hP hS d_Tx_wholeNumber_91
          · replace h := o_ff c6 h
            refine lv_iconst (v := (-1:Int32)) hx hb d_Tx_wholeNumber_86 (by decide) ?_
            refine lv_goto (tgt := 91) hx hb d_Tx_wholeNumber_87 (by decide) ?_
            cases h
            exact o_ri (v := (-1:Int32)) C hP hS d_Tx_wholeNumber_91
        · replace h := o_ff c4 h
          refine lv_iconst (v := (-1:Int32)) hx hb d_Tx_wholeNumber_41 (by decide) ?_
          cases h
          exact o_ri (v := (-1:Int32)) C hP hS d_Tx_wholeNumber_42
set_option maxHeartbeats 4000000 in
set_option maxRecDepth 100000 in
theorem w_Tx_wholeNumber_b47_1 {E : (Nat → Prop) → State → Heap → Prop} {p : Program} {l : Launch} {e : Env} {s : State} {m : MethodId} {args : Array Value} {below : List Frame} {meth : Method} {c : Code} {D : va_G} {ad kd sd : Nat → Nat} {ca : Nat → ClassId} {A : Nat → Prop} {Q : State → Prop} (hE : o_EK E kd sd) (C : o_Cx E p s m args meth c D o_cls (o_tys ca) "SchemaJudge$Text" b_Tx_wholeNumber (some .int) 4 cc_Tx_wholeNumber A) (hDD : ∀ (rt : Nat) (Sj : SSJ) (T0 : STx) (T1 : STx) (Rd : SRd) (Pg : SPg) (Pt : SPt) (Mk : SMk) (Lk : SLk) (Ck : SCk) (Jd : SJd) (Ld : SLd) (Pr : SPr), va_D A (o_cw ad ca rt Sj T0 T1 Rd Pg Pt Mk Lk Ck Jd Ld Pr)) (n : Nat) (u47_x1 : Int32) (u47_a0 : STx) (u47_Sj : SSJ) (u47_T0 : STx) (u47_Rd : SRd) (u47_Pg : SPg) (u47_Pt : SPt) (u47_Mk : SMk) (u47_Lk : SLk) (u47_Ck : SCk) (u47_Jd : SJd) (u47_Ld : SLd) (u47_Pr : SPr) (u47_rt : Nat) (z : Int32 × Int32) (q : Nat × Int32 × Int32) (h : m_Tx_wholeNumber_b47 n u47_x1 u47_a0 z = some q) (h0 : q.1 = 0 → o_At p l e rm_Tx_wholeNumber s m args below meth c Q o_cls D A 4 47 [] (o_cw ad ca u47_rt u47_Sj u47_T0 u47_a0 u47_Rd u47_Pg u47_Pt u47_Mk u47_Lk u47_Ck u47_Jd u47_Ld u47_Pr) [(0, .ref (ad 12)), (1, .int u47_x1), (2, .int q.2.1), (3, .int q.2.2)]) (h1 : q.1 ≠ 0 → (o_At p l e rm_Tx_wholeNumber s m args below meth c Q o_cls D A 4 80 [] (o_cw ad ca u47_rt u47_Sj u47_T0 u47_a0 u47_Rd u47_Pg u47_Pt u47_Mk u47_Lk u47_Ck u47_Jd u47_Ld u47_Pr) [(2, .int q.2.1)])) : o_At p l e rm_Tx_wholeNumber s m args below meth c Q o_cls D A 4 47 [] (o_cw ad ca u47_rt u47_Sj u47_T0 u47_a0 u47_Rd u47_Pg u47_Pt u47_Mk u47_Lk u47_Ck u47_Jd u47_Ld u47_Pr) [(0, .ref (ad 12)), (1, .int u47_x1), (2, .int z.1), (3, .int z.2)] := by
  unfold m_Tx_wholeNumber_b47 at h
  intro H locs ls hP hS hl
  have C0 := C
  obtain ⟨hx, hb, -, -, -, hown, hts, hK, -, -⟩ := C0
  refine lv_iload_n hx hb d_Tx_wholeNumber_47 rfl (lv_at hl 3 rfl) ?_
  refine lv_aload_n hx hb d_Tx_wholeNumber_48 rfl (lv_at hl 0 rfl) ?_
  refine lv_iload_n hx hb d_Tx_wholeNumber_49 rfl (lv_at hl 1 rfl) ?_
  obtain ⟨q6, hq6, h⟩ := o_bd_some h
  refine o_V (st1 := [.int q6, .int z.2]) (w1 := (o_cw ad ca u47_rt u47_Sj u47_T0 u47_a0 u47_Rd u47_Pg u47_Pt u47_Mk u47_Lk u47_Ck u47_Jd u47_Ld u47_Pr)) hE.1 C (c_Tx_size_1 hE l u47_x1 u47_a0 u47_Sj u47_T0 u47_Rd u47_Pg u47_Pt u47_Mk u47_Lk u47_Ck u47_Jd u47_Ld u47_Pr u47_rt hq6) hP (hDD _ _ _ _ _ _ _ _ _ _ _ _ _) hS hl.1 rfl cw_12 k_3_214 k_3_215 k_3_216 k_1_2 k_3_217 hv_Tx_size rfl rfl ⟨Nat.le_of_ble_eq_true rfl, Nat.le_of_ble_eq_true rfl⟩ rfl (Nat.le_of_ble_eq_true rfl) ⟨Nat.le_of_ble_eq_true rfl, Nat.le_of_ble_eq_true rfl⟩ rfl d_Tx_wholeNumber_50 (fun H locs hP hS => ?_)
  refine lv_aload_n hx hb d_Tx_wholeNumber_53 rfl (lv_at hl 0 rfl) ?_
  refine lv_iload_n hx hb d_Tx_wholeNumber_54 rfl (lv_at hl 1 rfl) ?_
  obtain ⟨q7, hq7, h⟩ := o_bd_some h
  refine o_V (st1 := [.int q7, .int q6, .int z.2]) (w1 := (o_cw ad ca u47_rt u47_Sj u47_T0 u47_a0 u47_Rd u47_Pg u47_Pt u47_Mk u47_Lk u47_Ck u47_Jd u47_Ld u47_Pr)) hE.1 C (c_Tx_exponent_1 hE l u47_x1 u47_a0 u47_Sj u47_T0 u47_Rd u47_Pg u47_Pt u47_Mk u47_Lk u47_Ck u47_Jd u47_Ld u47_Pr u47_rt hq7) hP (hDD _ _ _ _ _ _ _ _ _ _ _ _ _) hS hl.1 rfl cw_12 k_5_66 k_5_67 k_5_68 k_1_2 k_5_69 hv_Tx_exponent rfl rfl ⟨Nat.le_of_ble_eq_true rfl, Nat.le_of_ble_eq_true rfl⟩ rfl (Nat.le_of_ble_eq_true rfl) ⟨Nat.le_of_ble_eq_true rfl, Nat.le_of_ble_eq_true rfl⟩ rfl d_Tx_wholeNumber_55 (fun H locs hP hS => ?_)
  refine lv_iadd hx hb d_Tx_wholeNumber_58 ?_
  refine lv_icmp_ge (tgt := 80) hx hb d_Tx_wholeNumber_59 (by decide) (fun c5 => ?_) (fun c5 => ?_)
  · replace h := o_tt c5 h
    cases h
    exact h1 (Nat.succ_ne_zero 0) _ _ _ hP hS (lv_sub hl [2] rfl)
  · replace h := o_ff c5 h
    refine lv_iload_n hx hb d_Tx_wholeNumber_62 rfl (lv_at hl 2 rfl) ?_
    refine lv_bipush (v := (10:Int32)) hx hb d_Tx_wholeNumber_63 (by decide) ?_
    refine lv_imul hx hb d_Tx_wholeNumber_65 ?_
    refine lv_aload_n hx hb d_Tx_wholeNumber_66 rfl (lv_at hl 0 rfl) ?_
    refine lv_iload_n hx hb d_Tx_wholeNumber_67 rfl (lv_at hl 1 rfl) ?_
    refine lv_iload_n hx hb d_Tx_wholeNumber_68 rfl (lv_at hl 3 rfl) ?_
    obtain ⟨q8, hq8, h⟩ := o_bd_some h
    refine o_V (st1 := [.int q8, .int (z.1 * (10:Int32))]) (w1 := (o_cw ad ca u47_rt u47_Sj u47_T0 u47_a0 u47_Rd u47_Pg u47_Pt u47_Mk u47_Lk u47_Ck u47_Jd u47_Ld u47_Pr)) hE.1 C (c_Tx_cell_1 hE l u47_x1 z.2 u47_a0 u47_Sj u47_T0 u47_Rd u47_Pg u47_Pt u47_Mk u47_Lk u47_Ck u47_Jd u47_Ld u47_Pr u47_rt hq8) hP (hDD _ _ _ _ _ _ _ _ _ _ _ _ _) hS hl.1 rfl cw_12 k_5_70 k_4_117 k_4_118 k_1_2 k_4_119 hv_Tx_cell rfl rfl ⟨Nat.le_of_ble_eq_true rfl, Nat.le_of_ble_eq_true rfl⟩ rfl (Nat.le_of_ble_eq_true rfl) ⟨Nat.le_of_ble_eq_true rfl, Nat.le_of_ble_eq_true rfl⟩ rfl d_Tx_wholeNumber_69 (fun H locs hP hS => ?_)
    refine lv_iadd hx hb d_Tx_wholeNumber_72 ?_
    refine lv_topi (fun x2_73 ex2_73 => ?_)
    replace h := o_nm_at ex2_73 h
    refine lv_istore_n (lv' := [(2, .int x2_73), (0, .ref (ad 12)), (1, .int u47_x1), (3, .int z.2)]) hx hb d_Tx_wholeNumber_73 rfl hl (by decide) rfl (fun ls hl => ?_)
    obtain ⟨x3_74, ex3_74⟩ : ∃ y : Int32, y = z.2 + (1:Int32) := ⟨_, rfl⟩
    replace h := o_nm_at ex3_74 h
    refine lv_iinc (v := x3_74) (lv' := [(3, .int x3_74), (2, .int x2_73), (0, .ref (ad 12)), (1, .int u47_x1)]) hx hb d_Tx_wholeNumber_74 hl (k := 3) rfl (by rw [ex3_74]; rfl) (by decide) rfl (fun ls hl => ?_)
    refine lv_goto (tgt := 47) hx hb d_Tx_wholeNumber_77 (by decide) ?_
    cases h
    exact h0 rfl _ _ _ hP hS (lv_sub hl [2, 3, 1, 0] rfl)
set_option maxHeartbeats 4000000 in
set_option maxRecDepth 100000 in
theorem c_Tx_wholeNumber_1 {E : (Nat → Prop) → State → Heap → Prop} {D : va_G} {ad kd sd : Nat → Nat} {ca : Nat → ClassId} (hE : o_EK E kd sd) (l : Launch) (n : Nat) (x1 : Int32) (a0 : STx) (Sj : SSJ) (T0 : STx) (Rd : SRd) (Pg : SPg) (Pt : SPt) (Mk : SMk) (Lk : SLk) (Ck : SCk) (Jd : SJd) (Ld : SLd) (Pr : SPr) (rt : Nat) {r : Int32} (h : m_Tx_wholeNumber n x1 a0 = some r) : o_Cn E l D o_cls (o_tys ca) y_Tx_wholeNumber cc_Tx_wholeNumber rm_Tx_wholeNumber [.ref (ad 12), .int x1] (o_cw ad ca rt Sj T0 a0 Rd Pg Pt Mk Lk Ck Jd Ld Pr) (o_cw ad ca rt Sj T0 a0 Rd Pg Pt Mk Lk Ck Jd Ld Pr) (some (.int r)) := by
  refine o_Cn_of (by decide) (Nat.le_of_ble_eq_true rfl) ?_
  intro p e s m below meth c A ls C hD hP hS hl
  have hDD : ∀ (rt : Nat) (Sj : SSJ) (T0 : STx) (T1 : STx) (Rd : SRd) (Pg : SPg) (Pt : SPt) (Mk : SMk) (Lk : SLk) (Ck : SCk) (Jd : SJd) (Ld : SLd) (Pr : SPr), va_D A (o_cw ad ca rt Sj T0 T1 Rd Pg Pt Mk Lk Ck Jd Ld Pr) := fun _ _ _ _ _ _ _ _ _ _ _ _ _ => o_D_map hD rfl
  have hl : lv_has ls 4 [(0, .ref (ad 12)), (1, .int x1)] := hl
  unfold m_Tx_wholeNumber at h
  have C0 := C
  obtain ⟨hx, hb, -, -, -, hown, hts, hK, -, -⟩ := C0
  refine lv_aload_n hx hb d_Tx_wholeNumber_0 rfl (lv_at hl 0 rfl) ?_
  refine lv_iload_n hx hb d_Tx_wholeNumber_1 rfl (lv_at hl 1 rfl) ?_
  obtain ⟨q1, hq1, h⟩ := o_bd_some h
  refine o_V (st1 := [.int q1]) (w1 := (o_cw ad ca rt Sj T0 a0 Rd Pg Pt Mk Lk Ck Jd Ld Pr)) hE.1 C (c_Tx_kind_1 hE l x1 a0 Sj T0 Rd Pg Pt Mk Lk Ck Jd Ld Pr rt hq1) hP (hDD _ _ _ _ _ _ _ _ _ _ _ _ _) hS hl.1 rfl cw_12 k_5_64 k_4_50 k_4_51 k_1_2 k_4_52 hv_Tx_kind rfl rfl ⟨Nat.le_of_ble_eq_true rfl, Nat.le_of_ble_eq_true rfl⟩ rfl (Nat.le_of_ble_eq_true rfl) ⟨Nat.le_of_ble_eq_true rfl, Nat.le_of_ble_eq_true rfl⟩ rfl d_Tx_wholeNumber_2 (fun H locs hP hS => ?_)
  refine lv_iconst (v := (3:Int32)) hx hb d_Tx_wholeNumber_5 (by decide) ?_
  refine lv_icmp_ne (tgt := 41) hx hb d_Tx_wholeNumber_6 (by decide) (fun c1 => ?_) (fun c1 => ?_)
  · replace h := o_ff c1 h
    refine lv_iconst (v := (-1:Int32)) hx hb d_Tx_wholeNumber_41 (by decide) ?_
    cases h
    exact o_ri (v := (-1:Int32)) C hP hS d_Tx_wholeNumber_42
  · replace h := o_tt c1 h
    refine lv_aload_n hx hb d_Tx_wholeNumber_9 rfl (lv_at hl 0 rfl) ?_
    refine lv_iload_n hx hb d_Tx_wholeNumber_10 rfl (lv_at hl 1 rfl) ?_
    obtain ⟨q2, hq2, h⟩ := o_bd_some h
    refine o_V (st1 := [.int q2]) (w1 := (o_cw ad ca rt Sj T0 a0 Rd Pg Pt Mk Lk Ck Jd Ld Pr)) hE.1 C (c_Tx_sign_1 hE l x1 a0 Sj T0 Rd Pg Pt Mk Lk Ck Jd Ld Pr rt hq2) hP (hDD _ _ _ _ _ _ _ _ _ _ _ _ _) hS hl.1 rfl cw_12 k_5_65 k_5_57 k_5_58 k_1_2 k_5_59 hv_Tx_sign rfl rfl ⟨Nat.le_of_ble_eq_true rfl, Nat.le_of_ble_eq_true rfl⟩ rfl (Nat.le_of_ble_eq_true rfl) ⟨Nat.le_of_ble_eq_true rfl, Nat.le_of_ble_eq_true rfl⟩ rfl d_Tx_wholeNumber_11 (fun H locs hP hS => ?_)
    refine lv_if_lt (tgt := 41) hx hb d_Tx_wholeNumber_14 (by decide) (fun c2 => ?_) (fun c2 => ?_)
    · replace h := o_tt c2 h
      refine lv_iconst (v := (-1:Int32)) hx hb d_Tx_wholeNumber_41 (by decide) ?_
      cases h
      exact o_ri (v := (-1:Int32)) C hP hS d_Tx_wholeNumber_42
    · replace h := o_ff c2 h
      refine lv_aload_n hx hb d_Tx_wholeNumber_17 rfl (lv_at hl 0 rfl) ?_
      refine lv_iload_n hx hb d_Tx_wholeNumber_18 rfl (lv_at hl 1 rfl) ?_
      obtain ⟨q3, hq3, h⟩ := o_bd_some h
      refine o_V (st1 := [.int q3]) (w1 := (o_cw ad ca rt Sj T0 a0 Rd Pg Pt Mk Lk Ck Jd Ld Pr)) hE.1 C (c_Tx_exponent_1 hE l x1 a0 Sj T0 Rd Pg Pt Mk Lk Ck Jd Ld Pr rt hq3) hP (hDD _ _ _ _ _ _ _ _ _ _ _ _ _) hS hl.1 rfl cw_12 k_5_66 k_5_67 k_5_68 k_1_2 k_5_69 hv_Tx_exponent rfl rfl ⟨Nat.le_of_ble_eq_true rfl, Nat.le_of_ble_eq_true rfl⟩ rfl (Nat.le_of_ble_eq_true rfl) ⟨Nat.le_of_ble_eq_true rfl, Nat.le_of_ble_eq_true rfl⟩ rfl d_Tx_wholeNumber_19 (fun H locs hP hS => ?_)
      refine lv_if_lt (tgt := 41) hx hb d_Tx_wholeNumber_22 (by decide) (fun c3 => ?_) (fun c3 => ?_)
      · replace h := o_tt c3 h
        refine lv_iconst (v := (-1:Int32)) hx hb d_Tx_wholeNumber_41 (by decide) ?_
        cases h
        exact o_ri (v := (-1:Int32)) C hP hS d_Tx_wholeNumber_42
      · replace h := o_ff c3 h
        refine lv_aload_n hx hb d_Tx_wholeNumber_25 rfl (lv_at hl 0 rfl) ?_
        refine lv_iload_n hx hb d_Tx_wholeNumber_26 rfl (lv_at hl 1 rfl) ?_
        obtain ⟨q4, hq4, h⟩ := o_bd_some h
        refine o_V (st1 := [.int q4]) (w1 := (o_cw ad ca rt Sj T0 a0 Rd Pg Pt Mk Lk Ck Jd Ld Pr)) hE.1 C (c_Tx_size_1 hE l x1 a0 Sj T0 Rd Pg Pt Mk Lk Ck Jd Ld Pr rt hq4) hP (hDD _ _ _ _ _ _ _ _ _ _ _ _ _) hS hl.1 rfl cw_12 k_3_214 k_3_215 k_3_216 k_1_2 k_3_217 hv_Tx_size rfl rfl ⟨Nat.le_of_ble_eq_true rfl, Nat.le_of_ble_eq_true rfl⟩ rfl (Nat.le_of_ble_eq_true rfl) ⟨Nat.le_of_ble_eq_true rfl, Nat.le_of_ble_eq_true rfl⟩ rfl d_Tx_wholeNumber_27 (fun H locs hP hS => ?_)
        refine lv_aload_n hx hb d_Tx_wholeNumber_30 rfl (lv_at hl 0 rfl) ?_
        refine lv_iload_n hx hb d_Tx_wholeNumber_31 rfl (lv_at hl 1 rfl) ?_
        obtain ⟨q5, hq5, h⟩ := o_bd_some h
        refine o_V (st1 := [.int q5, .int q4]) (w1 := (o_cw ad ca rt Sj T0 a0 Rd Pg Pt Mk Lk Ck Jd Ld Pr)) hE.1 C (c_Tx_exponent_1 hE l x1 a0 Sj T0 Rd Pg Pt Mk Lk Ck Jd Ld Pr rt hq5) hP (hDD _ _ _ _ _ _ _ _ _ _ _ _ _) hS hl.1 rfl cw_12 k_5_66 k_5_67 k_5_68 k_1_2 k_5_69 hv_Tx_exponent rfl rfl ⟨Nat.le_of_ble_eq_true rfl, Nat.le_of_ble_eq_true rfl⟩ rfl (Nat.le_of_ble_eq_true rfl) ⟨Nat.le_of_ble_eq_true rfl, Nat.le_of_ble_eq_true rfl⟩ rfl d_Tx_wholeNumber_32 (fun H locs hP hS => ?_)
        refine lv_iadd hx hb d_Tx_wholeNumber_35 ?_
        refine lv_bipush (v := (7:Int32)) hx hb d_Tx_wholeNumber_36 (by decide) ?_
        refine lv_icmp_le (tgt := 43) hx hb d_Tx_wholeNumber_38 (by decide) (fun c4 => ?_) (fun c4 => ?_)
        · replace h := o_tt c4 h
          refine lv_iconst (v := (0:Int32)) hx hb d_Tx_wholeNumber_43 (by decide) ?_
          refine lv_istore_n (lv' := [(2, .int (0:Int32)), (0, .ref (ad 12)), (1, .int x1)]) hx hb d_Tx_wholeNumber_44 rfl hl (by decide) rfl (fun ls hl => ?_)
          refine lv_iconst (v := (0:Int32)) hx hb d_Tx_wholeNumber_45 (by decide) ?_
          refine lv_istore_n (lv' := [(3, .int (0:Int32)), (2, .int (0:Int32)), (0, .ref (ad 12)), (1, .int x1)]) hx hb d_Tx_wholeNumber_46 rfl hl (by decide) rfl (fun ls hl => ?_)
          obtain ⟨q9, hq9, h⟩ := o_bd_some h
          refine o_sim2 (AH := fun zz => o_At p l e rm_Tx_wholeNumber s m _ below meth c _ o_cls D A 4 47 [] (o_cw ad ca rt Sj T0 a0 Rd Pg Pt Mk Lk Ck Jd Ld Pr) [(0, .ref (ad 12)), (1, .int x1), (2, .int zz.1), (3, .int zz.2)]) (AX := fun qq => o_At p l e rm_Tx_wholeNumber s m _ below meth c _ o_cls D A 4 80 [] (o_cw ad ca rt Sj T0 a0 Rd Pg Pt Mk Lk Ck Jd Ld Pr) [(2, .int qq.2.1)]) (fun zz qq h h0 h1 => w_Tx_wholeNumber_b47_1 hE C hDD n x1 a0 Sj T0 Rd Pg Pt Mk Lk Ck Jd Ld Pr rt zz qq h h0 h1) n _ q9 hq9 ?_ _ _ _ hP hS (lv_sub hl [2, 3, 1, 0] rfl)
          intro H locs ls hP hS hl
          refine lv_iload_n hx hb d_Tx_wholeNumber_80 rfl (lv_at hl 0 rfl) ?_
          refine lv_ldc (v := (1000000:Int32)) hx hb hown (hts _ k_5_71) d_Tx_wholeNumber_81 ?_
          refine lv_icmp_le (tgt := 90) hx hb d_Tx_wholeNumber_83 (by decide) (fun c6 => ?_) (fun c6 => ?_)
          · replace h := o_tt c6 h
            refine lv_iload_n hx hb d_Tx_wholeNumber_90 rfl (lv_at hl 0 rfl) ?_
            cases h
            exact o_ri C hP hS d_Tx_wholeNumber_91
          · replace h := o_ff c6 h
            refine lv_iconst (v := (-1:Int32)) hx hb d_Tx_wholeNumber_86 (by decide) ?_
            refine lv_goto (tgt := 91) hx hb d_Tx_wholeNumber_87 (by decide) ?_
            cases h
            exact o_ri (v := (-1:Int32)) C hP hS d_Tx_wholeNumber_91
        · replace h := o_ff c4 h
          refine lv_iconst (v := (-1:Int32)) hx hb d_Tx_wholeNumber_41 (by decide) ?_
          cases h
          exact o_ri (v := (-1:Int32)) C hP hS d_Tx_wholeNumber_42
set_option maxHeartbeats 4000000 in
set_option maxRecDepth 100000 in
theorem c_Tx_slot_1 {E : (Nat → Prop) → State → Heap → Prop} {D : va_G} {ad kd sd : Nat → Nat} {ca : Nat → ClassId} (hE : o_EK E kd sd) (l : Launch) (x1 : Int32) (a0 : STx) (Sj : SSJ) (T0 : STx) (Rd : SRd) (Pg : SPg) (Pt : SPt) (Mk : SMk) (Lk : SLk) (Ck : SCk) (Jd : SJd) (Ld : SLd) (Pr : SPr) (rt : Nat) {r : Int32} (h : m_Tx_slot x1 a0 = some r) : o_Cn E l D o_cls (o_tys ca) y_Tx_slot cc_Tx_slot rm_Tx_slot [.ref (ad 12), .int x1] (o_cw ad ca rt Sj T0 a0 Rd Pg Pt Mk Lk Ck Jd Ld Pr) (o_cw ad ca rt Sj T0 a0 Rd Pg Pt Mk Lk Ck Jd Ld Pr) (some (.int r)) := by
  refine o_Cn_of (by decide) (Nat.le_of_ble_eq_true rfl) ?_
  intro p e s m below meth c A ls C hD hP hS hl
  have hDD : ∀ (rt : Nat) (Sj : SSJ) (T0 : STx) (T1 : STx) (Rd : SRd) (Pg : SPg) (Pt : SPt) (Mk : SMk) (Lk : SLk) (Ck : SCk) (Jd : SJd) (Ld : SLd) (Pr : SPr), va_D A (o_cw ad ca rt Sj T0 T1 Rd Pg Pt Mk Lk Ck Jd Ld Pr) := fun _ _ _ _ _ _ _ _ _ _ _ _ _ => o_D_map hD rfl
  have hl : lv_has ls 2 [(0, .ref (ad 12)), (1, .int x1)] := hl
  unfold m_Tx_slot at h
  have C0 := C
  obtain ⟨hx, hb, -, -, -, hown, hts, hK, -, -⟩ := C0
  refine lv_iload_n hx hb d_Tx_slot_0 rfl (lv_at hl 1 rfl) ?_
  refine lv_if_lt (tgt := 21) hx hb d_Tx_slot_1 (by decide) (fun c1 => ?_) (fun c1 => ?_)
  · replace h := o_tt c1 h
    refine lv_iconst (v := (0:Int32)) hx hb d_Tx_slot_21 (by decide) ?_
    cases h
    exact o_ri (v := (0:Int32)) C hP hS d_Tx_slot_22
  · replace h := o_ff c1 h
    refine lv_iload_n hx hb d_Tx_slot_4 rfl (lv_at hl 1 rfl) ?_
    refine lv_aload_n hx hb d_Tx_slot_5 rfl (lv_at hl 0 rfl) ?_
    refine o_get (v := .int (Tx_total a0)) C in_Tx hP 12 cw_12 rfl 10 (by decide) k_1_56 rfl rfl d_Tx_slot_6 ?_
    refine lv_icmp_ge (tgt := 21) hx hb d_Tx_slot_9 (by decide) (fun c2 => ?_) (fun c2 => ?_)
    · replace h := o_tt c2 h
      refine lv_iconst (v := (0:Int32)) hx hb d_Tx_slot_21 (by decide) ?_
      cases h
      exact o_ri (v := (0:Int32)) C hP hS d_Tx_slot_22
    · replace h := o_ff c2 h
      refine lv_aload_n hx hb d_Tx_slot_12 rfl (lv_at hl 0 rfl) ?_
      refine o_get (v := .ref (ad 20)) C in_Tx hP 12 cw_12 rfl 7 (by decide) k_1_53 rfl rfl d_Tx_slot_13 ?_
      refine lv_iload_n hx hb d_Tx_slot_16 rfl (lv_at hl 1 rfl) ?_
      obtain ⟨g3, h⟩ := o_gd_some h
      refine o_iald (f := (Tx_slots a0)) C hP 20 17 cw_20 rfl g3 d_Tx_slot_17 ?_
      refine lv_goto (tgt := 22) hx hb d_Tx_slot_18 (by decide) ?_
      cases h
      exact o_ri (v := ((Tx_slots a0) x1.toNatClampNeg)) C hP hS d_Tx_slot_22
set_option maxHeartbeats 4000000 in
set_option maxRecDepth 100000 in
theorem w_Tx_element_b9_1 {E : (Nat → Prop) → State → Heap → Prop} {p : Program} {l : Launch} {e : Env} {s : State} {m : MethodId} {args : Array Value} {below : List Frame} {meth : Method} {c : Code} {D : va_G} {ad kd sd : Nat → Nat} {ca : Nat → ClassId} {A : Nat → Prop} {Q : State → Prop} (hE : o_EK E kd sd) (C : o_Cx E p s m args meth c D o_cls (o_tys ca) "SchemaJudge$Text" b_Tx_element (some .int) 5 cc_Tx_element A) (hDD : ∀ (rt : Nat) (Sj : SSJ) (T0 : STx) (T1 : STx) (Rd : SRd) (Pg : SPg) (Pt : SPt) (Mk : SMk) (Lk : SLk) (Ck : SCk) (Jd : SJd) (Ld : SLd) (Pr : SPr), va_D A (o_cw ad ca rt Sj T0 T1 Rd Pg Pt Mk Lk Ck Jd Ld Pr)) (n : Nat) (u9_x2 : Int32) (u9_a0 : STx) (u9_Sj : SSJ) (u9_T0 : STx) (u9_Rd : SRd) (u9_Pg : SPg) (u9_Pt : SPt) (u9_Mk : SMk) (u9_Lk : SLk) (u9_Ck : SCk) (u9_Jd : SJd) (u9_Ld : SLd) (u9_Pr : SPr) (u9_rt : Nat) (z : Int32 × Int32) (q : Nat × Int32 × Int32) (h : m_Tx_element_b9 n u9_x2 u9_a0 z = some q) (h0 : q.1 = 0 → o_At p l e rm_Tx_element s m args below meth c Q o_cls D A 5 9 [] (o_cw ad ca u9_rt u9_Sj u9_T0 u9_a0 u9_Rd u9_Pg u9_Pt u9_Mk u9_Lk u9_Ck u9_Jd u9_Ld u9_Pr) [(0, .ref (ad 12)), (2, .int u9_x2), (3, .int q.2.1), (4, .int q.2.2)]) (h1 : q.1 ≠ 0 → (o_At p l e rm_Tx_element s m args below meth c Q o_cls D A 5 32 [] (o_cw ad ca u9_rt u9_Sj u9_T0 u9_a0 u9_Rd u9_Pg u9_Pt u9_Mk u9_Lk u9_Ck u9_Jd u9_Ld u9_Pr) [(3, .int q.2.1)])) : o_At p l e rm_Tx_element s m args below meth c Q o_cls D A 5 9 [] (o_cw ad ca u9_rt u9_Sj u9_T0 u9_a0 u9_Rd u9_Pg u9_Pt u9_Mk u9_Lk u9_Ck u9_Jd u9_Ld u9_Pr) [(0, .ref (ad 12)), (2, .int u9_x2), (3, .int z.1), (4, .int z.2)] := by
  unfold m_Tx_element_b9 at h
  intro H locs ls hP hS hl
  have C0 := C
  obtain ⟨hx, hb, -, -, -, hown, hts, hK, -, -⟩ := C0
  refine lv_iload hx hb d_Tx_element_9 (lv_at hl 3 rfl) ?_
  refine lv_iload_n hx hb d_Tx_element_11 rfl (lv_at hl 1 rfl) ?_
  refine lv_icmp_ge (tgt := 32) hx hb d_Tx_element_12 (by decide) (fun c1 => ?_) (fun c1 => ?_)
  · replace h := o_tt c1 h
    cases h
    exact h1 (Nat.succ_ne_zero 0) _ _ _ hP hS (lv_sub hl [2] rfl)
  · replace h := o_ff c1 h
    refine lv_iload_n hx hb d_Tx_element_15 rfl (lv_at hl 2 rfl) ?_
    refine lv_iconst (v := (-1:Int32)) hx hb d_Tx_element_16 (by decide) ?_
    refine lv_icmp_eq (tgt := 32) hx hb d_Tx_element_17 (by decide) (fun c2 => ?_) (fun c2 => ?_)
    · replace h := o_tt c2 h
      cases h
      exact h1 (Nat.succ_ne_zero 0) _ _ _ hP hS (lv_sub hl [2] rfl)
    · replace h := o_ff c2 h
      refine lv_aload_n hx hb d_Tx_element_20 rfl (lv_at hl 0 rfl) ?_
      refine lv_iload_n hx hb d_Tx_element_21 rfl (lv_at hl 2 rfl) ?_
      obtain ⟨q2, hq2, h⟩ := o_bd_some h
      refine o_V (st1 := [.int q2]) (w1 := (o_cw ad ca u9_rt u9_Sj u9_T0 u9_a0 u9_Rd u9_Pg u9_Pt u9_Mk u9_Lk u9_Ck u9_Jd u9_Ld u9_Pr)) hE.1 C (c_Tx_nextChild_1 hE l z.1 u9_a0 u9_Sj u9_T0 u9_Rd u9_Pg u9_Pt u9_Mk u9_Lk u9_Ck u9_Jd u9_Ld u9_Pr u9_rt hq2) hP (hDD _ _ _ _ _ _ _ _ _ _ _ _ _) hS hl.1 rfl cw_12 k_3_221 k_3_222 k_3_223 k_1_2 k_3_224 hv_Tx_nextChild rfl rfl ⟨Nat.le_of_ble_eq_true rfl, Nat.le_of_ble_eq_true rfl⟩ rfl (Nat.le_of_ble_eq_true rfl) ⟨Nat.le_of_ble_eq_true rfl, Nat.le_of_ble_eq_true rfl⟩ rfl d_Tx_element_22 (fun H locs hP hS => ?_)
      refine lv_istore_n (lv' := [(3, .int q2), (0, .ref (ad 12)), (2, .int u9_x2), (4, .int z.2)]) hx hb d_Tx_element_25 rfl hl (by decide) rfl (fun ls hl => ?_)
      obtain ⟨x4_26, ex4_26⟩ : ∃ y : Int32, y = z.2 + (1:Int32) := ⟨_, rfl⟩
      replace h := o_nm_at ex4_26 h
      refine lv_iinc (v := x4_26) (lv' := [(4, .int x4_26), (3, .int q2), (0, .ref (ad 12)), (2, .int u9_x2)]) hx hb d_Tx_element_26 hl (k := 3) rfl (by rw [ex4_26]; rfl) (by decide) rfl (fun ls hl => ?_)
      refine lv_goto (tgt := 9) hx hb d_Tx_element_29 (by decide) ?_
      cases h
      exact h0 rfl _ _ _ hP hS (lv_sub hl [2, 3, 1, 0] rfl)
set_option maxHeartbeats 4000000 in
set_option maxRecDepth 100000 in
theorem c_Tx_element_1 {E : (Nat → Prop) → State → Heap → Prop} {D : va_G} {ad kd sd : Nat → Nat} {ca : Nat → ClassId} (hE : o_EK E kd sd) (l : Launch) (n : Nat) (x1 : Int32) (x2 : Int32) (a0 : STx) (Sj : SSJ) (T0 : STx) (Rd : SRd) (Pg : SPg) (Pt : SPt) (Mk : SMk) (Lk : SLk) (Ck : SCk) (Jd : SJd) (Ld : SLd) (Pr : SPr) (rt : Nat) {r : Int32} (h : m_Tx_element n x1 x2 a0 = some r) : o_Cn E l D o_cls (o_tys ca) y_Tx_element cc_Tx_element rm_Tx_element [.ref (ad 12), .int x1, .int x2] (o_cw ad ca rt Sj T0 a0 Rd Pg Pt Mk Lk Ck Jd Ld Pr) (o_cw ad ca rt Sj T0 a0 Rd Pg Pt Mk Lk Ck Jd Ld Pr) (some (.int r)) := by
  refine o_Cn_of (by decide) (Nat.le_of_ble_eq_true rfl) ?_
  intro p e s m below meth c A ls C hD hP hS hl
  have hDD : ∀ (rt : Nat) (Sj : SSJ) (T0 : STx) (T1 : STx) (Rd : SRd) (Pg : SPg) (Pt : SPt) (Mk : SMk) (Lk : SLk) (Ck : SCk) (Jd : SJd) (Ld : SLd) (Pr : SPr), va_D A (o_cw ad ca rt Sj T0 T1 Rd Pg Pt Mk Lk Ck Jd Ld Pr) := fun _ _ _ _ _ _ _ _ _ _ _ _ _ => o_D_map hD rfl
  have hl : lv_has ls 5 [(0, .ref (ad 12)), (1, .int x1), (2, .int x2)] := hl
  unfold m_Tx_element at h
  have C0 := C
  obtain ⟨hx, hb, -, -, -, hown, hts, hK, -, -⟩ := C0
  refine lv_aload_n hx hb d_Tx_element_0 rfl (lv_at hl 0 rfl) ?_
  refine lv_iload_n hx hb d_Tx_element_1 rfl (lv_at hl 1 rfl) ?_
  obtain ⟨q1, hq1, h⟩ := o_bd_some h
  refine o_V (st1 := [.int q1]) (w1 := (o_cw ad ca rt Sj T0 a0 Rd Pg Pt Mk Lk Ck Jd Ld Pr)) hE.1 C (c_Tx_firstChild_1 hE l x1 a0 Sj T0 Rd Pg Pt Mk Lk Ck Jd Ld Pr rt hq1) hP (hDD _ _ _ _ _ _ _ _ _ _ _ _ _) hS hl.1 rfl cw_12 k_3_210 k_3_211 k_3_212 k_1_2 k_3_213 hv_Tx_firstChild rfl rfl ⟨Nat.le_of_ble_eq_true rfl, Nat.le_of_ble_eq_true rfl⟩ rfl (Nat.le_of_ble_eq_true rfl) ⟨Nat.le_of_ble_eq_true rfl, Nat.le_of_ble_eq_true rfl⟩ rfl d_Tx_element_2 (fun H locs hP hS => ?_)
  refine lv_istore_n (lv' := [(3, .int q1), (0, .ref (ad 12)), (1, .int x1), (2, .int x2)]) hx hb d_Tx_element_5 rfl hl (by decide) rfl (fun ls hl => ?_)
  refine lv_iconst (v := (0:Int32)) hx hb d_Tx_element_6 (by decide) ?_
  refine lv_istore (lv' := [(4, .int (0:Int32)), (3, .int q1), (0, .ref (ad 12)), (1, .int x1), (2, .int x2)]) hx hb d_Tx_element_7 hl (by decide) rfl (fun ls hl => ?_)
  obtain ⟨q3, hq3, h⟩ := o_bd_some h
  refine o_sim2 (AH := fun zz => o_At p l e rm_Tx_element s m _ below meth c _ o_cls D A 5 9 [] (o_cw ad ca rt Sj T0 a0 Rd Pg Pt Mk Lk Ck Jd Ld Pr) [(0, .ref (ad 12)), (2, .int x2), (3, .int zz.1), (4, .int zz.2)]) (AX := fun qq => o_At p l e rm_Tx_element s m _ below meth c _ o_cls D A 5 32 [] (o_cw ad ca rt Sj T0 a0 Rd Pg Pt Mk Lk Ck Jd Ld Pr) [(3, .int qq.2.1)]) (fun zz qq h h0 h1 => w_Tx_element_b9_1 hE C hDD n x2 a0 Sj T0 Rd Pg Pt Mk Lk Ck Jd Ld Pr rt zz qq h h0 h1) n _ q3 hq3 ?_ _ _ _ hP hS (lv_sub hl [2, 4, 1, 0] rfl)
  intro H locs ls hP hS hl
  refine lv_iload_n hx hb d_Tx_element_32 rfl (lv_at hl 0 rfl) ?_
  cases h
  exact o_ri C hP hS d_Tx_element_33
set_option maxHeartbeats 4000000 in
set_option maxRecDepth 100000 in
theorem c_Tx_parent_0 {E : (Nat → Prop) → State → Heap → Prop} {D : va_G} {ad kd sd : Nat → Nat} {ca : Nat → ClassId} (hE : o_EK E kd sd) (l : Launch) (x1 : Int32) (a0 : STx) (Sj : SSJ) (T1 : STx) (Rd : SRd) (Pg : SPg) (Pt : SPt) (Mk : SMk) (Lk : SLk) (Ck : SCk) (Jd : SJd) (Ld : SLd) (Pr : SPr) (rt : Nat) {r : Int32} (h : m_Tx_parent x1 a0 = some r) : o_Cn E l D o_cls (o_tys ca) y_Tx_parent cc_Tx_parent rm_Tx_parent [.ref (ad 1), .int x1] (o_cw ad ca rt Sj a0 T1 Rd Pg Pt Mk Lk Ck Jd Ld Pr) (o_cw ad ca rt Sj a0 T1 Rd Pg Pt Mk Lk Ck Jd Ld Pr) (some (.int r)) := by
  refine o_Cn_of (by decide) (Nat.le_of_ble_eq_true rfl) ?_
  intro p e s m below meth c A ls C hD hP hS hl
  have hDD : ∀ (rt : Nat) (Sj : SSJ) (T0 : STx) (T1 : STx) (Rd : SRd) (Pg : SPg) (Pt : SPt) (Mk : SMk) (Lk : SLk) (Ck : SCk) (Jd : SJd) (Ld : SLd) (Pr : SPr), va_D A (o_cw ad ca rt Sj T0 T1 Rd Pg Pt Mk Lk Ck Jd Ld Pr) := fun _ _ _ _ _ _ _ _ _ _ _ _ _ => o_D_map hD rfl
  have hl : lv_has ls 2 [(0, .ref (ad 1)), (1, .int x1)] := hl
  unfold m_Tx_parent at h
  have C0 := C
  obtain ⟨hx, hb, -, -, -, hown, hts, hK, -, -⟩ := C0
  refine lv_iload_n hx hb d_Tx_parent_0 rfl (lv_at hl 1 rfl) ?_
  refine lv_if_lt (tgt := 21) hx hb d_Tx_parent_1 (by decide) (fun c1 => ?_) (fun c1 => ?_)
  · replace h := o_tt c1 h
    refine lv_iconst (v := (-1:Int32)) hx hb d_Tx_parent_21 (by decide) ?_
    cases h
    exact o_ri (v := (-1:Int32)) C hP hS d_Tx_parent_22
  · replace h := o_ff c1 h
    refine lv_iload_n hx hb d_Tx_parent_4 rfl (lv_at hl 1 rfl) ?_
    refine lv_aload_n hx hb d_Tx_parent_5 rfl (lv_at hl 0 rfl) ?_
    refine o_get (v := .int (Tx_total a0)) C in_Tx hP 1 cw_1 rfl 10 (by decide) k_1_56 rfl rfl d_Tx_parent_6 ?_
    refine lv_icmp_ge (tgt := 21) hx hb d_Tx_parent_9 (by decide) (fun c2 => ?_) (fun c2 => ?_)
    · replace h := o_tt c2 h
      refine lv_iconst (v := (-1:Int32)) hx hb d_Tx_parent_21 (by decide) ?_
      cases h
      exact o_ri (v := (-1:Int32)) C hP hS d_Tx_parent_22
    · replace h := o_ff c2 h
      refine lv_aload_n hx hb d_Tx_parent_12 rfl (lv_at hl 0 rfl) ?_
      refine o_get (v := .ref (ad 5)) C in_Tx hP 1 cw_1 rfl 3 (by decide) k_1_49 rfl rfl d_Tx_parent_13 ?_
      refine lv_iload_n hx hb d_Tx_parent_16 rfl (lv_at hl 1 rfl) ?_
      obtain ⟨g3, h⟩ := o_gd_some h
      refine o_iald (f := (Tx_parents a0)) C hP 5 3 cw_5 rfl g3 d_Tx_parent_17 ?_
      refine lv_goto (tgt := 22) hx hb d_Tx_parent_18 (by decide) ?_
      cases h
      exact o_ri (v := ((Tx_parents a0) x1.toNatClampNeg)) C hP hS d_Tx_parent_22
set_option maxHeartbeats 4000000 in
set_option maxRecDepth 100000 in
theorem c_Tx_parent_1 {E : (Nat → Prop) → State → Heap → Prop} {D : va_G} {ad kd sd : Nat → Nat} {ca : Nat → ClassId} (hE : o_EK E kd sd) (l : Launch) (x1 : Int32) (a0 : STx) (Sj : SSJ) (T0 : STx) (Rd : SRd) (Pg : SPg) (Pt : SPt) (Mk : SMk) (Lk : SLk) (Ck : SCk) (Jd : SJd) (Ld : SLd) (Pr : SPr) (rt : Nat) {r : Int32} (h : m_Tx_parent x1 a0 = some r) : o_Cn E l D o_cls (o_tys ca) y_Tx_parent cc_Tx_parent rm_Tx_parent [.ref (ad 12), .int x1] (o_cw ad ca rt Sj T0 a0 Rd Pg Pt Mk Lk Ck Jd Ld Pr) (o_cw ad ca rt Sj T0 a0 Rd Pg Pt Mk Lk Ck Jd Ld Pr) (some (.int r)) := by
  refine o_Cn_of (by decide) (Nat.le_of_ble_eq_true rfl) ?_
  intro p e s m below meth c A ls C hD hP hS hl
  have hDD : ∀ (rt : Nat) (Sj : SSJ) (T0 : STx) (T1 : STx) (Rd : SRd) (Pg : SPg) (Pt : SPt) (Mk : SMk) (Lk : SLk) (Ck : SCk) (Jd : SJd) (Ld : SLd) (Pr : SPr), va_D A (o_cw ad ca rt Sj T0 T1 Rd Pg Pt Mk Lk Ck Jd Ld Pr) := fun _ _ _ _ _ _ _ _ _ _ _ _ _ => o_D_map hD rfl
  have hl : lv_has ls 2 [(0, .ref (ad 12)), (1, .int x1)] := hl
  unfold m_Tx_parent at h
  have C0 := C
  obtain ⟨hx, hb, -, -, -, hown, hts, hK, -, -⟩ := C0
  refine lv_iload_n hx hb d_Tx_parent_0 rfl (lv_at hl 1 rfl) ?_
  refine lv_if_lt (tgt := 21) hx hb d_Tx_parent_1 (by decide) (fun c1 => ?_) (fun c1 => ?_)
  · replace h := o_tt c1 h
    refine lv_iconst (v := (-1:Int32)) hx hb d_Tx_parent_21 (by decide) ?_
    cases h
    exact o_ri (v := (-1:Int32)) C hP hS d_Tx_parent_22
  · replace h := o_ff c1 h
    refine lv_iload_n hx hb d_Tx_parent_4 rfl (lv_at hl 1 rfl) ?_
    refine lv_aload_n hx hb d_Tx_parent_5 rfl (lv_at hl 0 rfl) ?_
    refine o_get (v := .int (Tx_total a0)) C in_Tx hP 12 cw_12 rfl 10 (by decide) k_1_56 rfl rfl d_Tx_parent_6 ?_
    refine lv_icmp_ge (tgt := 21) hx hb d_Tx_parent_9 (by decide) (fun c2 => ?_) (fun c2 => ?_)
    · replace h := o_tt c2 h
      refine lv_iconst (v := (-1:Int32)) hx hb d_Tx_parent_21 (by decide) ?_
      cases h
      exact o_ri (v := (-1:Int32)) C hP hS d_Tx_parent_22
    · replace h := o_ff c2 h
      refine lv_aload_n hx hb d_Tx_parent_12 rfl (lv_at hl 0 rfl) ?_
      refine o_get (v := .ref (ad 16)) C in_Tx hP 12 cw_12 rfl 3 (by decide) k_1_49 rfl rfl d_Tx_parent_13 ?_
      refine lv_iload_n hx hb d_Tx_parent_16 rfl (lv_at hl 1 rfl) ?_
      obtain ⟨g3, h⟩ := o_gd_some h
      refine o_iald (f := (Tx_parents a0)) C hP 16 13 cw_16 rfl g3 d_Tx_parent_17 ?_
      refine lv_goto (tgt := 22) hx hb d_Tx_parent_18 (by decide) ?_
      cases h
      exact o_ri (v := ((Tx_parents a0) x1.toNatClampNeg)) C hP hS d_Tx_parent_22
set_option maxHeartbeats 4000000 in
set_option maxRecDepth 100000 in
theorem c_Tx_has_0 {E : (Nat → Prop) → State → Heap → Prop} {D : va_G} {ad kd sd : Nat → Nat} {ca : Nat → ClassId} (hE : o_EK E kd sd) (l : Launch) (x1 : Int32) (a0 : STx) (Sj : SSJ) (T1 : STx) (Rd : SRd) (Pg : SPg) (Pt : SPt) (Mk : SMk) (Lk : SLk) (Ck : SCk) (Jd : SJd) (Ld : SLd) (Pr : SPr) (rt : Nat) {r : Int32} (h : m_Tx_has x1 a0 = some r) : o_Cn E l D o_cls (o_tys ca) y_Tx_has cc_Tx_has rm_Tx_has [.ref (ad 1), .int x1] (o_cw ad ca rt Sj a0 T1 Rd Pg Pt Mk Lk Ck Jd Ld Pr) (o_cw ad ca rt Sj a0 T1 Rd Pg Pt Mk Lk Ck Jd Ld Pr) (some (.int r)) := by
  refine o_Cn_of (by decide) (Nat.le_of_ble_eq_true rfl) ?_
  intro p e s m below meth c A ls C hD hP hS hl
  have hDD : ∀ (rt : Nat) (Sj : SSJ) (T0 : STx) (T1 : STx) (Rd : SRd) (Pg : SPg) (Pt : SPt) (Mk : SMk) (Lk : SLk) (Ck : SCk) (Jd : SJd) (Ld : SLd) (Pr : SPr), va_D A (o_cw ad ca rt Sj T0 T1 Rd Pg Pt Mk Lk Ck Jd Ld Pr) := fun _ _ _ _ _ _ _ _ _ _ _ _ _ => o_D_map hD rfl
  have hl : lv_has ls 2 [(0, .ref (ad 1)), (1, .int x1)] := hl
  unfold m_Tx_has at h
  have C0 := C
  obtain ⟨hx, hb, -, -, -, hown, hts, hK, -, -⟩ := C0
  refine lv_iload_n hx hb d_Tx_has_0 rfl (lv_at hl 1 rfl) ?_
  refine lv_if_lt (tgt := 16) hx hb d_Tx_has_1 (by decide) (fun c1 => ?_) (fun c1 => ?_)
  · replace h := o_tt c1 h
    refine lv_iconst (v := (0:Int32)) hx hb d_Tx_has_16 (by decide) ?_
    cases h
    exact o_rz (v := (0:Int32)) C o_nar0 hP hS d_Tx_has_17
  · replace h := o_ff c1 h
    refine lv_iload_n hx hb d_Tx_has_4 rfl (lv_at hl 1 rfl) ?_
    refine lv_aload_n hx hb d_Tx_has_5 rfl (lv_at hl 0 rfl) ?_
    refine o_get (v := .int (Tx_total a0)) C in_Tx hP 1 cw_1 rfl 10 (by decide) k_1_56 rfl rfl d_Tx_has_6 ?_
    refine lv_icmp_ge (tgt := 16) hx hb d_Tx_has_9 (by decide) (fun c2 => ?_) (fun c2 => ?_)
    · replace h := o_tt c2 h
      refine lv_iconst (v := (0:Int32)) hx hb d_Tx_has_16 (by decide) ?_
      cases h
      exact o_rz (v := (0:Int32)) C o_nar0 hP hS d_Tx_has_17
    · replace h := o_ff c2 h
      refine lv_iconst (v := (1:Int32)) hx hb d_Tx_has_12 (by decide) ?_
      refine lv_goto (tgt := 17) hx hb d_Tx_has_13 (by decide) ?_
      cases h
      exact o_rz (v := (1:Int32)) C o_nar1 hP hS d_Tx_has_17
set_option maxHeartbeats 4000000 in
set_option maxRecDepth 100000 in
theorem c_Tx_has_1 {E : (Nat → Prop) → State → Heap → Prop} {D : va_G} {ad kd sd : Nat → Nat} {ca : Nat → ClassId} (hE : o_EK E kd sd) (l : Launch) (x1 : Int32) (a0 : STx) (Sj : SSJ) (T0 : STx) (Rd : SRd) (Pg : SPg) (Pt : SPt) (Mk : SMk) (Lk : SLk) (Ck : SCk) (Jd : SJd) (Ld : SLd) (Pr : SPr) (rt : Nat) {r : Int32} (h : m_Tx_has x1 a0 = some r) : o_Cn E l D o_cls (o_tys ca) y_Tx_has cc_Tx_has rm_Tx_has [.ref (ad 12), .int x1] (o_cw ad ca rt Sj T0 a0 Rd Pg Pt Mk Lk Ck Jd Ld Pr) (o_cw ad ca rt Sj T0 a0 Rd Pg Pt Mk Lk Ck Jd Ld Pr) (some (.int r)) := by
  refine o_Cn_of (by decide) (Nat.le_of_ble_eq_true rfl) ?_
  intro p e s m below meth c A ls C hD hP hS hl
  have hDD : ∀ (rt : Nat) (Sj : SSJ) (T0 : STx) (T1 : STx) (Rd : SRd) (Pg : SPg) (Pt : SPt) (Mk : SMk) (Lk : SLk) (Ck : SCk) (Jd : SJd) (Ld : SLd) (Pr : SPr), va_D A (o_cw ad ca rt Sj T0 T1 Rd Pg Pt Mk Lk Ck Jd Ld Pr) := fun _ _ _ _ _ _ _ _ _ _ _ _ _ => o_D_map hD rfl
  have hl : lv_has ls 2 [(0, .ref (ad 12)), (1, .int x1)] := hl
  unfold m_Tx_has at h
  have C0 := C
  obtain ⟨hx, hb, -, -, -, hown, hts, hK, -, -⟩ := C0
  refine lv_iload_n hx hb d_Tx_has_0 rfl (lv_at hl 1 rfl) ?_
  refine lv_if_lt (tgt := 16) hx hb d_Tx_has_1 (by decide) (fun c1 => ?_) (fun c1 => ?_)
  · replace h := o_tt c1 h
    refine lv_iconst (v := (0:Int32)) hx hb d_Tx_has_16 (by decide) ?_
    cases h
    exact o_rz (v := (0:Int32)) C o_nar0 hP hS d_Tx_has_17
  · replace h := o_ff c1 h
    refine lv_iload_n hx hb d_Tx_has_4 rfl (lv_at hl 1 rfl) ?_
    refine lv_aload_n hx hb d_Tx_has_5 rfl (lv_at hl 0 rfl) ?_
    refine o_get (v := .int (Tx_total a0)) C in_Tx hP 12 cw_12 rfl 10 (by decide) k_1_56 rfl rfl d_Tx_has_6 ?_
    refine lv_icmp_ge (tgt := 16) hx hb d_Tx_has_9 (by decide) (fun c2 => ?_) (fun c2 => ?_)
    · replace h := o_tt c2 h
      refine lv_iconst (v := (0:Int32)) hx hb d_Tx_has_16 (by decide) ?_
      cases h
      exact o_rz (v := (0:Int32)) C o_nar0 hP hS d_Tx_has_17
    · replace h := o_ff c2 h
      refine lv_iconst (v := (1:Int32)) hx hb d_Tx_has_12 (by decide) ?_
      refine lv_goto (tgt := 17) hx hb d_Tx_has_13 (by decide) ?_
      cases h
      exact o_rz (v := (1:Int32)) C o_nar1 hP hS d_Tx_has_17
