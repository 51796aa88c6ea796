set_option maxHeartbeats 4000000 in
set_option maxRecDepth 100000 in
theorem f_MT_read_j67_a {E : (Nat → Prop) → State → Heap → Prop} {p : Program} {l : Launch} {e : Env} {s : State} {m : MethodId} {args : Array Value} {below : List Frame} {meth : Method} {c : Code} {D : va_G} {ad kd sd vd xd : Nat → Nat} {ca : Nat → ClassId} {A : Nat → Prop} {ky ty : Nat → Option Nat} (hE : o_EK E kd sd vd xd) (hKy : m_KY ky ty sd) (C : o_Cx E p s m args meth c D m_cls (m_tys ca) "SchemaJudgeModel$Text" b_MT_read (some .int) 2 cc_MT_read A) (hDD : ∀ (rt : Nat) (Ni : SNI) (Np : SNP) (No : SNO) (Nx : SNX) (Nf : SNF) (Na : SNA) (Nh : SNH) (Nq : SNQ) (Nj : SNJ) (M0 : SMT) (M1 : SMT), va_D A (m_cw ad ca ky ty rt Ni Np No Nx Nf Na Nh Nq Nj M0 M1)) (n : Nat)  (a0 : SMT) (Ni : SNI) (Np : SNP) (No : SNO) (Nx : SNX) (Nf : SNF) (Na : SNA) (Nh : SNH) (Nq : SNQ) (Nj : SNJ) (M1 : SMT) (rt : Nat) {r : Int32 × SMT} (h : m_MT_read_j67 n a0 = some r) : o_At p l e rm_MT_read s m args below meth c (MQ below (o_Qx D m_cls (some (.int r.1)) (m_cw ad ca ky ty rt Ni Np No Nx Nf Na Nh Nq Nj r.2 M1) A) args s 0 0 A) m_cls D A 2 67 [] (m_cw ad ca ky ty rt Ni Np No Nx Nf Na Nh Nq Nj a0 M1) [(0, .ref (ad 33))] := by
  unfold m_MT_read_j67 at h
  intro H locs ls hP hS hl
  have C0 := C
  obtain ⟨hx, hb, -, -, -, hown, hts, hK, -, -⟩ := C0
  refine lv_aload_n hx hb d_MT_read_67 rfl (lv_at hl 0 rfl) ?_
  refine o_get (v := .int (MT_wrong a0)) C in_MT hP 33 mw_33 rfl 16 (by decide) k_7_130 rfl rfl d_MT_read_68 ?_
  refine lv_if_lt (tgt := 79) hx hb d_MT_read_71 (by decide) (fun c2 => ?_) (fun c2 => ?_)
  · replace h := o_tt c2 h
    refine lv_aload_n hx hb d_MT_read_79 rfl (lv_at hl 0 rfl) ?_
    refine o_get (v := .int (MT_wrong a0)) C in_MT hP 33 mw_33 rfl 16 (by decide) k_7_130 rfl rfl d_MT_read_80 ?_
    cases h
    exact o_ri (v := (MT_wrong a0)) C hP hS d_MT_read_83
  · replace h := o_ff c2 h
    refine lv_aload_n hx hb d_MT_read_74 rfl (lv_at hl 0 rfl) ?_
    refine lv_iconst (v := (0:Int32)) hx hb d_MT_read_75 (by decide) ?_
    refine o_put (v := .int (0:Int32)) (ty := .int) (w1 := (m_cw ad ca ky ty rt Ni Np No Nx Nf Na Nh Nq Nj (MT_mk (MT_text a0) (MT_kind a0) (MT_place a0) (MT_many a0) (MT_parent a0) (MT_power a0) (MT_first a0) (MT_next a0) (MT_name a0) (MT_from a0) (MT_characters a0) (MT_digits a0) (MT_minus a0) (0:Int32) (MT_letters a0) (MT_at a0) (MT_wrong a0) (MT_used a0) (MT_written a0) (MT_left a0)) M1)) C in_MT t_MT t_MT_ok n_MT hP (hDD _ _ _ _ _ _ _ _ _ _ _ _) hS 33 mw_33 rfl 13 (by decide) k_7_126 rfl rfl (by decide +kernel) rfl rfl (Nat.le_of_ble_eq_true rfl) rfl d_MT_read_76 (fun H locs hP hS => ?_)
    refine lv_aload_n hx hb d_MT_read_79 rfl (lv_at hl 0 rfl) ?_
    refine o_get (v := .int (MT_wrong a0)) C in_MT hP 33 mw_33 rfl 16 (by decide) k_7_130 rfl rfl d_MT_read_80 ?_
    cases h
    exact o_ri (v := (MT_wrong a0)) C hP hS d_MT_read_83
set_option maxHeartbeats 4000000 in
set_option maxRecDepth 100000 in
theorem e_MT_read_a {E : (Nat → Prop) → State → Heap → Prop} {D : va_G} {ad kd sd vd xd : Nat → Nat} {ca : Nat → ClassId} {ky ty : Nat → Option Nat} (hE : o_EK E kd sd vd xd) (hKy : m_KY ky ty sd) (l : Launch) (n : Nat) (x1 : Int32) (a0 : SMT) (Ni : SNI) (Np : SNP) (No : SNO) (Nx : SNX) (Nf : SNF) (Na : SNA) (Nh : SNH) (Nq : SNQ) (Nj : SNJ) (M1 : SMT) (rt : Nat) {r : Int32 × SMT} (h : m_MT_read n x1 a0 = some r) : o_Cn E l D m_cls (m_tys ca) y_MT_read cc_MT_read rm_MT_read [.ref (ad 33), .int x1] (m_cw ad ca ky ty rt Ni Np No Nx Nf Na Nh Nq Nj a0 M1) (m_cw ad ca ky ty rt Ni Np No Nx Nf Na Nh Nq Nj r.2 M1) (some (.int r.1)) := by
  refine o_Cn_of (by decide) (Nat.le_of_ble_eq_true rfl) ?_
  intro p e s m below meth c A ls C hD hP hS hl
  have hDD : ∀ (rt : Nat) (Ni : SNI) (Np : SNP) (No : SNO) (Nx : SNX) (Nf : SNF) (Na : SNA) (Nh : SNH) (Nq : SNQ) (Nj : SNJ) (M0 : SMT) (M1 : SMT), va_D A (m_cw ad ca ky ty rt Ni Np No Nx Nf Na Nh Nq Nj M0 M1) := fun _ _ _ _ _ _ _ _ _ _ _ _ => o_D_map hD rfl
  have hl : lv_has ls 2 [(0, .ref (ad 33)), (1, .int x1)] := hl
  unfold m_MT_read at h
  have C0 := C
  obtain ⟨hx, hb, -, -, -, hown, hts, hK, -, -⟩ := C0
  refine lv_aload_n hx hb d_MT_read_0 rfl (lv_at hl 0 rfl) ?_
  refine lv_iload_n hx hb d_MT_read_1 rfl (lv_at hl 1 rfl) ?_
  refine o_put (v := .int x1) (ty := .int) (w1 := (m_cw ad ca ky ty rt Ni Np No Nx Nf Na Nh Nq Nj (MT_mk (MT_text a0) (MT_kind a0) (MT_place a0) (MT_many a0) (MT_parent a0) (MT_power a0) (MT_first a0) (MT_next a0) (MT_name a0) (MT_from a0) (MT_characters a0) (MT_digits a0) (MT_minus a0) (MT_values a0) x1 (MT_at a0) (MT_wrong a0) (MT_used a0) (MT_written a0) (MT_left a0)) M1)) C in_MT t_MT t_MT_ok n_MT hP (hDD _ _ _ _ _ _ _ _ _ _ _ _) hS 33 mw_33 rfl 14 (by decide) k_7_128 rfl rfl (by decide +kernel) rfl rfl (Nat.le_of_ble_eq_true rfl) rfl d_MT_read_2 (fun H locs hP hS => ?_)
  refine lv_aload_n hx hb d_MT_read_5 rfl (lv_at hl 0 rfl) ?_
  refine lv_iconst (v := (0:Int32)) hx hb d_MT_read_6 (by decide) ?_
  refine o_put (v := .int (0:Int32)) (ty := .int) (w1 := (m_cw ad ca ky ty rt Ni Np No Nx Nf Na Nh Nq Nj (MT_mk (MT_text a0) (MT_kind a0) (MT_place a0) (MT_many a0) (MT_parent a0) (MT_power a0) (MT_first a0) (MT_next a0) (MT_name a0) (MT_from a0) (MT_characters a0) (MT_digits a0) (MT_minus a0) (MT_values a0) x1 (0:Int32) (MT_wrong a0) (MT_used a0) (MT_written a0) (MT_left a0)) M1)) C in_MT t_MT t_MT_ok n_MT hP (hDD _ _ _ _ _ _ _ _ _ _ _ _) hS 33 mw_33 rfl 15 (by decide) k_7_129 rfl rfl (by decide +kernel) rfl rfl (Nat.le_of_ble_eq_true rfl) rfl d_MT_read_7 (fun H locs hP hS => ?_)
  refine lv_aload_n hx hb d_MT_read_10 rfl (lv_at hl 0 rfl) ?_
  refine lv_iconst (v := (-1:Int32)) hx hb d_MT_read_11 (by decide) ?_
  refine o_put (v := .int (-1:Int32)) (ty := .int) (w1 := (m_cw ad ca ky ty rt Ni Np No Nx Nf Na Nh Nq Nj (MT_mk (MT_text a0) (MT_kind a0) (MT_place a0) (MT_many a0) (MT_parent a0) (MT_power a0) (MT_first a0) (MT_next a0) (MT_name a0) (MT_from a0) (MT_characters a0) (MT_digits a0) (MT_minus a0) (MT_values a0) x1 (0:Int32) (-1:Int32) (MT_used a0) (MT_written a0) (MT_left a0)) M1)) C in_MT t_MT t_MT_ok n_MT hP (hDD _ _ _ _ _ _ _ _ _ _ _ _) hS 33 mw_33 rfl 16 (by decide) k_7_130 rfl rfl (by decide +kernel) rfl rfl (Nat.le_of_ble_eq_true rfl) rfl d_MT_read_12 (fun H locs hP hS => ?_)
  refine lv_aload_n hx hb d_MT_read_15 rfl (lv_at hl 0 rfl) ?_
  refine lv_iconst (v := (0:Int32)) hx hb d_MT_read_16 (by decide) ?_
  refine o_put (v := .int (0:Int32)) (ty := .int) (w1 := (m_cw ad ca ky ty rt Ni Np No Nx Nf Na Nh Nq Nj (MT_mk (MT_text a0) (MT_kind a0) (MT_place a0) (MT_many a0) (MT_parent a0) (MT_power a0) (MT_first a0) (MT_next a0) (MT_name a0) (MT_from a0) (MT_characters a0) (MT_digits a0) (MT_minus a0) (0:Int32) x1 (0:Int32) (-1:Int32) (MT_used a0) (MT_written a0) (MT_left a0)) M1)) C in_MT t_MT t_MT_ok n_MT hP (hDD _ _ _ _ _ _ _ _ _ _ _ _) hS 33 mw_33 rfl 13 (by decide) k_7_126 rfl rfl (by decide +kernel) rfl rfl (Nat.le_of_ble_eq_true rfl) rfl d_MT_read_17 (fun H locs hP hS => ?_)
  refine lv_aload_n hx hb d_MT_read_20 rfl (lv_at hl 0 rfl) ?_
  refine lv_iconst (v := (0:Int32)) hx hb d_MT_read_21 (by decide) ?_
  refine o_put (v := .int (0:Int32)) (ty := .int) (w1 := (m_cw ad ca ky ty rt Ni Np No Nx Nf Na Nh Nq Nj (MT_mk (MT_text a0) (MT_kind a0) (MT_place a0) (MT_many a0) (MT_parent a0) (MT_power a0) (MT_first a0) (MT_next a0) (MT_name a0) (MT_from a0) (MT_characters a0) (MT_digits a0) (MT_minus a0) (0:Int32) x1 (0:Int32) (-1:Int32) (0:Int32) (MT_written a0) (MT_left a0)) M1)) C in_MT t_MT t_MT_ok n_MT hP (hDD _ _ _ _ _ _ _ _ _ _ _ _) hS 33 mw_33 rfl 17 (by decide) k_7_131 rfl rfl (by decide +kernel) rfl rfl (Nat.le_of_ble_eq_true rfl) rfl d_MT_read_22 (fun H locs hP hS => ?_)
  refine lv_aload_n hx hb d_MT_read_25 rfl (lv_at hl 0 rfl) ?_
  refine lv_iconst (v := (0:Int32)) hx hb d_MT_read_26 (by decide) ?_
  refine o_put (v := .int (0:Int32)) (ty := .int) (w1 := (m_cw ad ca ky ty rt Ni Np No Nx Nf Na Nh Nq Nj (MT_mk (MT_text a0) (MT_kind a0) (MT_place a0) (MT_many a0) (MT_parent a0) (MT_power a0) (MT_first a0) (MT_next a0) (MT_name a0) (MT_from a0) (MT_characters a0) (MT_digits a0) (MT_minus a0) (0:Int32) x1 (0:Int32) (-1:Int32) (0:Int32) (0:Int32) (MT_left a0)) M1)) C in_MT t_MT t_MT_ok n_MT hP (hDD _ _ _ _ _ _ _ _ _ _ _ _) hS 33 mw_33 rfl 18 (by decide) k_7_132 rfl rfl (by decide +kernel) rfl rfl (Nat.le_of_ble_eq_true rfl) rfl d_MT_read_27 (fun H locs hP hS => ?_)
  refine lv_aload_n hx hb d_MT_read_30 rfl (lv_at hl 0 rfl) ?_
  obtain ⟨q1, hq1, h⟩ := o_bd_some h
  refine o_V (st1 := []) (w1 := (m_cw ad ca ky ty rt Ni Np No Nx Nf Na Nh Nq Nj q1 M1)) hE.1 C (e_MT_blanks_a hE hKy l n (MT_mk (MT_text a0) (MT_kind a0) (MT_place a0) (MT_many a0) (MT_parent a0) (MT_power a0) (MT_first a0) (MT_next a0) (MT_name a0) (MT_from a0) (MT_characters a0) (MT_digits a0) (MT_minus a0) (0:Int32) x1 (0:Int32) (-1:Int32) (0:Int32) (0:Int32) (MT_left a0)) Ni Np No Nx Nf Na Nh Nq Nj M1 rt hq1) hP (hDD _ _ _ _ _ _ _ _ _ _ _ _) hS hl.1 rfl mw_33 k_8_188 k_8_189 k_8_190 k_1_13 k_8_191 hv_MT_blanks rfl rfl ⟨(Nat.le_of_ble_eq_true rfl), (Nat.le_of_ble_eq_true rfl)⟩ rfl (Nat.le_of_ble_eq_true rfl) ⟨Nat.zero_le _, Nat.zero_le _⟩ rfl d_MT_read_31 (fun H locs hP hS => ?_)
  refine lv_aload_n hx hb d_MT_read_34 rfl (lv_at hl 0 rfl) ?_
  refine lv_iconst (v := (-1:Int32)) hx hb d_MT_read_35 (by decide) ?_
  refine lv_iconst (v := (0:Int32)) hx hb d_MT_read_36 (by decide) ?_
  obtain ⟨q2, hq2, h⟩ := o_bd_some h
  refine o_V (st1 := [.int q2.1]) (w1 := (m_cw ad ca ky ty rt Ni Np No Nx Nf Na Nh Nq Nj q2.2 M1)) hE.1 C (e_MT_value_a hE hKy l n 43 (-1:Int32) (0:Int32) q1 Ni Np No Nx Nf Na Nh Nq Nj M1 rt hq2) hP (hDD _ _ _ _ _ _ _ _ _ _ _ _) hS hl.1 rfl mw_33 k_8_196 k_8_197 k_8_198 k_1_13 k_8_199 hv_MT_value rfl rfl ⟨(Nat.le_of_ble_eq_true rfl), (Nat.le_of_ble_eq_true rfl)⟩ rfl (Nat.le_of_ble_eq_true rfl) ⟨Nat.zero_le _, Nat.zero_le _⟩ rfl d_MT_read_37 (fun H locs hP hS => ?_)
  refine lv_if_eq (tgt := 67) hx hb d_MT_read_40 (by decide) (fun c1 => ?_) (fun c1 => ?_)
  · replace h := o_tt c1 h
    exact f_MT_read_j67_a hE hKy C hDD n q2.2 Ni Np No Nx Nf Na Nh Nq Nj M1 rt h _ _ _ hP hS (lv_sub hl [0] rfl)
  · replace h := o_ff c1 h
    refine lv_aload_n hx hb d_MT_read_43 rfl (lv_at hl 0 rfl) ?_
    obtain ⟨q3, hq3, h⟩ := o_bd_some h
    refine o_V (st1 := []) (w1 := (m_cw ad ca ky ty rt Ni Np No Nx Nf Na Nh Nq Nj q3 M1)) hE.1 C (e_MT_blanks_a hE hKy l n q2.2 Ni Np No Nx Nf Na Nh Nq Nj M1 rt hq3) hP (hDD _ _ _ _ _ _ _ _ _ _ _ _) hS hl.1 rfl mw_33 k_8_188 k_8_189 k_8_190 k_1_13 k_8_191 hv_MT_blanks rfl rfl ⟨(Nat.le_of_ble_eq_true rfl), (Nat.le_of_ble_eq_true rfl)⟩ rfl (Nat.le_of_ble_eq_true rfl) ⟨Nat.zero_le _, Nat.zero_le _⟩ rfl d_MT_read_44 (fun H locs hP hS => ?_)
    refine lv_aload_n hx hb d_MT_read_47 rfl (lv_at hl 0 rfl) ?_
    refine o_get (v := .int (MT_at q3)) C in_MT hP 33 mw_33 rfl 15 (by decide) k_7_129 rfl rfl d_MT_read_48 ?_
    refine lv_aload_n hx hb d_MT_read_51 rfl (lv_at hl 0 rfl) ?_
    refine o_get (v := .int (MT_letters q3)) C in_MT hP 33 mw_33 rfl 14 (by decide) k_7_128 rfl rfl d_MT_read_52 ?_
    refine lv_icmp_ge (tgt := 67) hx hb d_MT_read_55 (by decide) (fun c3 => ?_) (fun c3 => ?_)
    · replace h := o_tt c3 h
      exact f_MT_read_j67_a hE hKy C hDD n q3 Ni Np No Nx Nf Na Nh Nq Nj M1 rt h _ _ _ hP hS (lv_sub hl [0] rfl)
    · replace h := o_ff c3 h
      refine lv_aload_n hx hb d_MT_read_58 rfl (lv_at hl 0 rfl) ?_
      refine lv_aload_n hx hb d_MT_read_59 rfl (lv_at hl 0 rfl) ?_
      refine o_get (v := .int (MT_at q3)) C in_MT hP 33 mw_33 rfl 15 (by decide) k_7_129 rfl rfl d_MT_read_60 ?_
      obtain ⟨q4, hq4, h⟩ := o_bd_some h
      refine o_V (st1 := [.int q4.1]) (w1 := (m_cw ad ca ky ty rt Ni Np No Nx Nf Na Nh Nq Nj q4.2 M1)) hE.1 C (e_MT_bad_a hE hKy l (MT_at q3) q3 Ni Np No Nx Nf Na Nh Nq Nj M1 rt hq4) hP (hDD _ _ _ _ _ _ _ _ _ _ _ _) hS hl.1 rfl mw_33 k_8_203 k_8_204 k_8_205 k_1_13 k_8_206 hv_MT_bad rfl rfl ⟨(Nat.le_of_ble_eq_true rfl), (Nat.le_of_ble_eq_true rfl)⟩ rfl (Nat.le_of_ble_eq_true rfl) ⟨Nat.zero_le _, Nat.zero_le _⟩ rfl d_MT_read_63 (fun H locs hP hS => ?_)
      refine lv_pop hx hb d_MT_read_66 rfl ?_
      exact f_MT_read_j67_a hE hKy C hDD n q4.2 Ni Np No Nx Nf Na Nh Nq Nj M1 rt h _ _ _ hP hS (lv_sub hl [0] rfl)
set_option maxHeartbeats 4000000 in
set_option maxRecDepth 100000 in
theorem f_MT_read_j67_b {E : (Nat → Prop) → State → Heap → Prop} {p : Program} {l : Launch} {e : Env} {s : State} {m : MethodId} {args : Array Value} {below : List Frame} {meth : Method} {c : Code} {D : va_G} {ad kd sd vd xd : Nat → Nat} {ca : Nat → ClassId} {A : Nat → Prop} {ky ty : Nat → Option Nat} (hE : o_EK E kd sd vd xd) (hKy : m_KY ky ty sd) (C : o_Cx E p s m args meth c D m_cls (m_tys ca) "SchemaJudgeModel$Text" b_MT_read (some .int) 2 cc_MT_read A) (hDD : ∀ (rt : Nat) (Ni : SNI) (Np : SNP) (No : SNO) (Nx : SNX) (Nf : SNF) (Na : SNA) (Nh : SNH) (Nq : SNQ) (Nj : SNJ) (M0 : SMT) (M1 : SMT), va_D A (m_cw ad ca ky ty rt Ni Np No Nx Nf Na Nh Nq Nj M0 M1)) (n : Nat)  (a0 : SMT) (Ni : SNI) (Np : SNP) (No : SNO) (Nx : SNX) (Nf : SNF) (Na : SNA) (Nh : SNH) (Nq : SNQ) (Nj : SNJ) (M0 : SMT) (rt : Nat) {r : Int32 × SMT} (h : m_MT_read_j67 n a0 = some r) : o_At p l e rm_MT_read s m args below meth c (MQ below (o_Qx D m_cls (some (.int r.1)) (m_cw ad ca ky ty rt Ni Np No Nx Nf Na Nh Nq Nj M0 r.2) A) args s 0 0 A) m_cls D A 2 67 [] (m_cw ad ca ky ty rt Ni Np No Nx Nf Na Nh Nq Nj M0 a0) [(0, .ref (ad 48))] := by
  unfold m_MT_read_j67 at h
  intro H locs ls hP hS hl
  have C0 := C
  obtain ⟨hx, hb, -, -, -, hown, hts, hK, -, -⟩ := C0
  refine lv_aload_n hx hb d_MT_read_67 rfl (lv_at hl 0 rfl) ?_
  refine o_get (v := .int (MT_wrong a0)) C in_MT hP 48 mw_48 rfl 16 (by decide) k_7_130 rfl rfl d_MT_read_68 ?_
  refine lv_if_lt (tgt := 79) hx hb d_MT_read_71 (by decide) (fun c2 => ?_) (fun c2 => ?_)
  · replace h := o_tt c2 h
    refine lv_aload_n hx hb d_MT_read_79 rfl (lv_at hl 0 rfl) ?_
    refine o_get (v := .int (MT_wrong a0)) C in_MT hP 48 mw_48 rfl 16 (by decide) k_7_130 rfl rfl d_MT_read_80 ?_
    cases h
    exact o_ri (v := (MT_wrong a0)) C hP hS d_MT_read_83
  · replace h := o_ff c2 h
    refine lv_aload_n hx hb d_MT_read_74 rfl (lv_at hl 0 rfl) ?_
    refine lv_iconst (v := (0:Int32)) hx hb d_MT_read_75 (by decide) ?_
    refine o_put (v := .int (0:Int32)) (ty := .int) (w1 := (m_cw ad ca ky ty rt Ni Np No Nx Nf Na Nh Nq Nj M0 (MT_mk (MT_text a0) (MT_kind a0) (MT_place a0) (MT_many a0) (MT_parent a0) (MT_power a0) (MT_first a0) (MT_next a0) (MT_name a0) (MT_from a0) (MT_characters a0) (MT_digits a0) (MT_minus a0) (0:Int32) (MT_letters a0) (MT_at a0) (MT_wrong a0) (MT_used a0) (MT_written a0) (MT_left a0)))) C in_MT t_MT t_MT_ok n_MT hP (hDD _ _ _ _ _ _ _ _ _ _ _ _) hS 48 mw_48 rfl 13 (by decide) k_7_126 rfl rfl (by decide +kernel) rfl rfl (Nat.le_of_ble_eq_true rfl) rfl d_MT_read_76 (fun H locs hP hS => ?_)
    refine lv_aload_n hx hb d_MT_read_79 rfl (lv_at hl 0 rfl) ?_
    refine o_get (v := .int (MT_wrong a0)) C in_MT hP 48 mw_48 rfl 16 (by decide) k_7_130 rfl rfl d_MT_read_80 ?_
    cases h
    exact o_ri (v := (MT_wrong a0)) C hP hS d_MT_read_83
set_option maxHeartbeats 4000000 in
set_option maxRecDepth 100000 in
theorem e_MT_read_b {E : (Nat → Prop) → State → Heap → Prop} {D : va_G} {ad kd sd vd xd : Nat → Nat} {ca : Nat → ClassId} {ky ty : Nat → Option Nat} (hE : o_EK E kd sd vd xd) (hKy : m_KY ky ty sd) (l : Launch) (n : Nat) (x1 : Int32) (a0 : SMT) (Ni : SNI) (Np : SNP) (No : SNO) (Nx : SNX) (Nf : SNF) (Na : SNA) (Nh : SNH) (Nq : SNQ) (Nj : SNJ) (M0 : SMT) (rt : Nat) {r : Int32 × SMT} (h : m_MT_read n x1 a0 = some r) : o_Cn E l D m_cls (m_tys ca) y_MT_read cc_MT_read rm_MT_read [.ref (ad 48), .int x1] (m_cw ad ca ky ty rt Ni Np No Nx Nf Na Nh Nq Nj M0 a0) (m_cw ad ca ky ty rt Ni Np No Nx Nf Na Nh Nq Nj M0 r.2) (some (.int r.1)) := by
  refine o_Cn_of (by decide) (Nat.le_of_ble_eq_true rfl) ?_
  intro p e s m below meth c A ls C hD hP hS hl
  have hDD : ∀ (rt : Nat) (Ni : SNI) (Np : SNP) (No : SNO) (Nx : SNX) (Nf : SNF) (Na : SNA) (Nh : SNH) (Nq : SNQ) (Nj : SNJ) (M0 : SMT) (M1 : SMT), va_D A (m_cw ad ca ky ty rt Ni Np No Nx Nf Na Nh Nq Nj M0 M1) := fun _ _ _ _ _ _ _ _ _ _ _ _ => o_D_map hD rfl
  have hl : lv_has ls 2 [(0, .ref (ad 48)), (1, .int x1)] := hl
  unfold m_MT_read at h
  have C0 := C
  obtain ⟨hx, hb, -, -, -, hown, hts, hK, -, -⟩ := C0
  refine lv_aload_n hx hb d_MT_read_0 rfl (lv_at hl 0 rfl) ?_
  refine lv_iload_n hx hb d_MT_read_1 rfl (lv_at hl 1 rfl) ?_
  refine o_put (v := .int x1) (ty := .int) (w1 := (m_cw ad ca ky ty rt Ni Np No Nx Nf Na Nh Nq Nj M0 (MT_mk (MT_text a0) (MT_kind a0) (MT_place a0) (MT_many a0) (MT_parent a0) (MT_power a0) (MT_first a0) (MT_next a0) (MT_name a0) (MT_from a0) (MT_characters a0) (MT_digits a0) (MT_minus a0) (MT_values a0) x1 (MT_at a0) (MT_wrong a0) (MT_used a0) (MT_written a0) (MT_left a0)))) C in_MT t_MT t_MT_ok n_MT hP (hDD _ _ _ _ _ _ _ _ _ _ _ _) hS 48 mw_48 rfl 14 (by decide) k_7_128 rfl rfl (by decide +kernel) rfl rfl (Nat.le_of_ble_eq_true rfl) rfl d_MT_read_2 (fun H locs hP hS => ?_)
  refine lv_aload_n hx hb d_MT_read_5 rfl (lv_at hl 0 rfl) ?_
  refine lv_iconst (v := (0:Int32)) hx hb d_MT_read_6 (by decide) ?_
  refine o_put (v := .int (0:Int32)) (ty := .int) (w1 := (m_cw ad ca ky ty rt Ni Np No Nx Nf Na Nh Nq Nj M0 (MT_mk (MT_text a0) (MT_kind a0) (MT_place a0) (MT_many a0) (MT_parent a0) (MT_power a0) (MT_first a0) (MT_next a0) (MT_name a0) (MT_from a0) (MT_characters a0) (MT_digits a0) (MT_minus a0) (MT_values a0) x1 (0:Int32) (MT_wrong a0) (MT_used a0) (MT_written a0) (MT_left a0)))) C in_MT t_MT t_MT_ok n_MT hP (hDD _ _ _ _ _ _ _ _ _ _ _ _) hS 48 mw_48 rfl 15 (by decide) k_7_129 rfl rfl (by decide +kernel) rfl rfl (Nat.le_of_ble_eq_true rfl) rfl d_MT_read_7 (fun H locs hP hS => ?_)
  refine lv_aload_n hx hb d_MT_read_10 rfl (lv_at hl 0 rfl) ?_
  refine lv_iconst (v := (-1:Int32)) hx hb d_MT_read_11 (by decide) ?_
  refine o_put (v := .int (-1:Int32)) (ty := .int) (w1 := (m_cw ad ca ky ty rt Ni Np No Nx Nf Na Nh Nq Nj M0 (MT_mk (MT_text a0) (MT_kind a0) (MT_place a0) (MT_many a0) (MT_parent a0) (MT_power a0) (MT_first a0) (MT_next a0) (MT_name a0) (MT_from a0) (MT_characters a0) (MT_digits a0) (MT_minus a0) (MT_values a0) x1 (0:Int32) (-1:Int32) (MT_used a0) (MT_written a0) (MT_left a0)))) C in_MT t_MT t_MT_ok n_MT hP (hDD _ _ _ _ _ _ _ _ _ _ _ _) hS 48 mw_48 rfl 16 (by decide) k_7_130 rfl rfl (by decide +kernel) rfl rfl (Nat.le_of_ble_eq_true rfl) rfl d_MT_read_12 (fun H locs hP hS => ?_)
  refine lv_aload_n hx hb d_MT_read_15 rfl (lv_at hl 0 rfl) ?_
  refine lv_iconst (v := (0:Int32)) hx hb d_MT_read_16 (by decide) ?_
  refine o_put (v := .int (0:Int32)) (ty := .int) (w1 := (m_cw ad ca ky ty rt Ni Np No Nx Nf Na Nh Nq Nj M0 (MT_mk (MT_text a0) (MT_kind a0) (MT_place a0) (MT_many a0) (MT_parent a0) (MT_power a0) (MT_first a0) (MT_next a0) (MT_name a0) (MT_from a0) (MT_characters a0) (MT_digits a0) (MT_minus a0) (0:Int32) x1 (0:Int32) (-1:Int32) (MT_used a0) (MT_written a0) (MT_left a0)))) C in_MT t_MT t_MT_ok n_MT hP (hDD _ _ _ _ _ _ _ _ _ _ _ _) hS 48 mw_48 rfl 13 (by decide) k_7_126 rfl rfl (by decide +kernel) rfl rfl (Nat.le_of_ble_eq_true rfl) rfl d_MT_read_17 (fun H locs hP hS => ?_)
  refine lv_aload_n hx hb d_MT_read_20 rfl (lv_at hl 0 rfl) ?_
  refine lv_iconst (v := (0:Int32)) hx hb d_MT_read_21 (by decide) ?_
  refine o_put (v := .int (0:Int32)) (ty := .int) (w1 := (m_cw ad ca ky ty rt Ni Np No Nx Nf Na Nh Nq Nj M0 (MT_mk (MT_text a0) (MT_kind a0) (MT_place a0) (MT_many a0) (MT_parent a0) (MT_power a0) (MT_first a0) (MT_next a0) (MT_name a0) (MT_from a0) (MT_characters a0) (MT_digits a0) (MT_minus a0) (0:Int32) x1 (0:Int32) (-1:Int32) (0:Int32) (MT_written a0) (MT_left a0)))) C in_MT t_MT t_MT_ok n_MT hP (hDD _ _ _ _ _ _ _ _ _ _ _ _) hS 48 mw_48 rfl 17 (by decide) k_7_131 rfl rfl (by decide +kernel) rfl rfl (Nat.le_of_ble_eq_true rfl) rfl d_MT_read_22 (fun H locs hP hS => ?_)
  refine lv_aload_n hx hb d_MT_read_25 rfl (lv_at hl 0 rfl) ?_
  refine lv_iconst (v := (0:Int32)) hx hb d_MT_read_26 (by decide) ?_
  refine o_put (v := .int (0:Int32)) (ty := .int) (w1 := (m_cw ad ca ky ty rt Ni Np No Nx Nf Na Nh Nq Nj M0 (MT_mk (MT_text a0) (MT_kind a0) (MT_place a0) (MT_many a0) (MT_parent a0) (MT_power a0) (MT_first a0) (MT_next a0) (MT_name a0) (MT_from a0) (MT_characters a0) (MT_digits a0) (MT_minus a0) (0:Int32) x1 (0:Int32) (-1:Int32) (0:Int32) (0:Int32) (MT_left a0)))) C in_MT t_MT t_MT_ok n_MT hP (hDD _ _ _ _ _ _ _ _ _ _ _ _) hS 48 mw_48 rfl 18 (by decide) k_7_132 rfl rfl (by decide +kernel) rfl rfl (Nat.le_of_ble_eq_true rfl) rfl d_MT_read_27 (fun H locs hP hS => ?_)
  refine lv_aload_n hx hb d_MT_read_30 rfl (lv_at hl 0 rfl) ?_
  obtain ⟨q1, hq1, h⟩ := o_bd_some h
  refine o_V (st1 := []) (w1 := (m_cw ad ca ky ty rt Ni Np No Nx Nf Na Nh Nq Nj M0 q1)) hE.1 C (e_MT_blanks_b hE hKy l n (MT_mk (MT_text a0) (MT_kind a0) (MT_place a0) (MT_many a0) (MT_parent a0) (MT_power a0) (MT_first a0) (MT_next a0) (MT_name a0) (MT_from a0) (MT_characters a0) (MT_digits a0) (MT_minus a0) (0:Int32) x1 (0:Int32) (-1:Int32) (0:Int32) (0:Int32) (MT_left a0)) Ni Np No Nx Nf Na Nh Nq Nj M0 rt hq1) hP (hDD _ _ _ _ _ _ _ _ _ _ _ _) hS hl.1 rfl mw_48 k_8_188 k_8_189 k_8_190 k_1_13 k_8_191 hv_MT_blanks rfl rfl ⟨(Nat.le_of_ble_eq_true rfl), (Nat.le_of_ble_eq_true rfl)⟩ rfl (Nat.le_of_ble_eq_true rfl) ⟨Nat.zero_le _, Nat.zero_le _⟩ rfl d_MT_read_31 (fun H locs hP hS => ?_)
  refine lv_aload_n hx hb d_MT_read_34 rfl (lv_at hl 0 rfl) ?_
  refine lv_iconst (v := (-1:Int32)) hx hb d_MT_read_35 (by decide) ?_
  refine lv_iconst (v := (0:Int32)) hx hb d_MT_read_36 (by decide) ?_
  obtain ⟨q2, hq2, h⟩ := o_bd_some h
  refine o_V (st1 := [.int q2.1]) (w1 := (m_cw ad ca ky ty rt Ni Np No Nx Nf Na Nh Nq Nj M0 q2.2)) hE.1 C (e_MT_value_b hE hKy l n 43 (-1:Int32) (0:Int32) q1 Ni Np No Nx Nf Na Nh Nq Nj M0 rt hq2) hP (hDD _ _ _ _ _ _ _ _ _ _ _ _) hS hl.1 rfl mw_48 k_8_196 k_8_197 k_8_198 k_1_13 k_8_199 hv_MT_value rfl rfl ⟨(Nat.le_of_ble_eq_true rfl), (Nat.le_of_ble_eq_true rfl)⟩ rfl (Nat.le_of_ble_eq_true rfl) ⟨Nat.zero_le _, Nat.zero_le _⟩ rfl d_MT_read_37 (fun H locs hP hS => ?_)
  refine lv_if_eq (tgt := 67) hx hb d_MT_read_40 (by decide) (fun c1 => ?_) (fun c1 => ?_)
  · replace h := o_tt c1 h
    exact f_MT_read_j67_b hE hKy C hDD n q2.2 Ni Np No Nx Nf Na Nh Nq Nj M0 rt h _ _ _ hP hS (lv_sub hl [0] rfl)
  · replace h := o_ff c1 h
    refine lv_aload_n hx hb d_MT_read_43 rfl (lv_at hl 0 rfl) ?_
    obtain ⟨q3, hq3, h⟩ := o_bd_some h
    refine o_V (st1 := []) (w1 := (m_cw ad ca ky ty rt Ni Np No Nx Nf Na Nh Nq Nj M0 q3)) hE.1 C (e_MT_blanks_b hE hKy l n q2.2 Ni Np No Nx Nf Na Nh Nq Nj M0 rt hq3) hP (hDD _ _ _ _ _ _ _ _ _ _ _ _) hS hl.1 rfl mw_48 k_8_188 k_8_189 k_8_190 k_1_13 k_8_191 hv_MT_blanks rfl rfl ⟨(Nat.le_of_ble_eq_true rfl), (Nat.le_of_ble_eq_true rfl)⟩ rfl (Nat.le_of_ble_eq_true rfl) ⟨Nat.zero_le _, Nat.zero_le _⟩ rfl d_MT_read_44 (fun H locs hP hS => ?_)
    refine lv_aload_n hx hb d_MT_read_47 rfl (lv_at hl 0 rfl) ?_
    refine o_get (v := .int (MT_at q3)) C in_MT hP 48 mw_48 rfl 15 (by decide) k_7_129 rfl rfl d_MT_read_48 ?_
    refine lv_aload_n hx hb d_MT_read_51 rfl (lv_at hl 0 rfl) ?_
    refine o_get (v := .int (MT_letters q3)) C in_MT hP 48 mw_48 rfl 14 (by decide) k_7_128 rfl rfl d_MT_read_52 ?_
    refine lv_icmp_ge (tgt := 67) hx hb d_MT_read_55 (by decide) (fun c3 => ?_) (fun c3 => ?_)
    · replace h := o_tt c3 h
      exact f_MT_read_j67_b hE hKy C hDD n q3 Ni Np No Nx Nf Na Nh Nq Nj M0 rt h _ _ _ hP hS (lv_sub hl [0] rfl)
    · replace h := o_ff c3 h
      refine lv_aload_n hx hb d_MT_read_58 rfl (lv_at hl 0 rfl) ?_
      refine lv_aload_n hx hb d_MT_read_59 rfl (lv_at hl 0 rfl) ?_
      refine o_get (v := .int (MT_at q3)) C in_MT hP 48 mw_48 rfl 15 (by decide) k_7_129 rfl rfl d_MT_read_60 ?_
      obtain ⟨q4, hq4, h⟩ := o_bd_some h
      refine o_V (st1 := [.int q4.1]) (w1 := (m_cw ad ca ky ty rt Ni Np No Nx Nf Na Nh Nq Nj M0 q4.2)) hE.1 C (e_MT_bad_b hE hKy l (MT_at q3) q3 Ni Np No Nx Nf Na Nh Nq Nj M0 rt hq4) hP (hDD _ _ _ _ _ _ _ _ _ _ _ _) hS hl.1 rfl mw_48 k_8_203 k_8_204 k_8_205 k_1_13 k_8_206 hv_MT_bad rfl rfl ⟨(Nat.le_of_ble_eq_true rfl), (Nat.le_of_ble_eq_true rfl)⟩ rfl (Nat.le_of_ble_eq_true rfl) ⟨Nat.zero_le _, Nat.zero_le _⟩ rfl d_MT_read_63 (fun H locs hP hS => ?_)
      refine lv_pop hx hb d_MT_read_66 rfl ?_
      exact f_MT_read_j67_b hE hKy C hDD n q4.2 Ni Np No Nx Nf Na Nh Nq Nj M0 rt h _ _ _ hP hS (lv_sub hl [0] rfl)
set_option maxHeartbeats 4000000 in
set_option maxRecDepth 100000 in
theorem f_MM_end_b63 {E : (Nat → Prop) → State → Heap → Prop} {p : Program} {l : Launch} {e : Env} {s : State} {m : MethodId} {args : Array Value} {below : List Frame} {meth : Method} {c : Code} {D : va_G} {ad kd sd vd xd : Nat → Nat} {ca : Nat → ClassId} {A : Nat → Prop} {ky ty : Nat → Option Nat} {Q : State → Prop} (hE : o_EK E kd sd vd xd) (hKy : m_KY ky ty sd) (C : o_Cx E p s m args meth c D m_cls (m_tys ca) "SchemaJudgeModel" b_MM_end (some .int) 5 cc_MM_end A) (hDD : ∀ (rt : Nat) (Ni : SNI) (Np : SNP) (No : SNO) (Nx : SNX) (Nf : SNF) (Na : SNA) (Nh : SNH) (Nq : SNQ) (Nj : SNJ) (M0 : SMT) (M1 : SMT), va_D A (m_cw ad ca ky ty rt Ni Np No Nx Nf Na Nh Nq Nj M0 M1)) (n : Nat) (u63_x1 : Int32) (u63_x2 : Int32) (u63_Ni : SNI) (u63_Nf : SNF) (u63_Np : SNP) (u63_No : SNO) (u63_Nx : SNX) (u63_Na : SNA) (u63_Nh : SNH) (u63_Nq : SNQ) (u63_Nj : SNJ) (u63_rt : Nat) (z : Int32 × SMT × SMT) (q : Nat × Int32 × SMT × SMT) (h : m_MM_end_b63 n u63_x1 u63_x2 u63_Ni u63_Nf z = some q) (h0 : q.1 = 0 → o_At p l e rm_MM_end s m args below meth c Q m_cls D A 5 63 [] (m_cw ad ca ky ty u63_rt u63_Ni u63_Np u63_No u63_Nx u63_Nf u63_Na u63_Nh u63_Nq u63_Nj q.2.2.1 q.2.2.2) [(0, .ref (ad 0)), (1, .int u63_x1), (2, .int u63_x2), (3, .ref (ad 48)), (4, .int q.2.1)]) (h1 : q.1 ≠ 0 → (o_At p l e rm_MM_end s m args below meth c Q m_cls D A 5 89 [] (m_cw ad ca ky ty u63_rt u63_Ni u63_Np u63_No u63_Nx u63_Nf u63_Na u63_Nh u63_Nq u63_Nj q.2.2.1 q.2.2.2) [(0, .ref (ad 0)), (1, .int u63_x1), (2, .int u63_x2), (3, .ref (ad 48))])) : o_At p l e rm_MM_end s m args below meth c Q m_cls D A 5 63 [] (m_cw ad ca ky ty u63_rt u63_Ni u63_Np u63_No u63_Nx u63_Nf u63_Na u63_Nh u63_Nq u63_Nj z.2.1 z.2.2) [(0, .ref (ad 0)), (1, .int u63_x1), (2, .int u63_x2), (3, .ref (ad 48)), (4, .int z.1)] := by
  unfold m_MM_end_b63 at h
  intro H locs ls hP hS hl
  have C0 := C
  obtain ⟨hx, hb, -, -, -, hown, hts, hK, -, -⟩ := C0
  refine lv_iload hx hb d_MM_end_63 (lv_at hl 4 rfl) ?_
  refine lv_iload_n hx hb d_MM_end_65 rfl (lv_at hl 2 rfl) ?_
  refine lv_icmp_ge (tgt := 89) hx hb d_MM_end_66 (by decide) (fun c4 => ?_) (fun c4 => ?_)
  · replace h := o_tt c4 h
    cases h
    exact h1 (Nat.succ_ne_zero 0) _ _ _ hP hS (lv_sub hl [0, 1, 2, 3] rfl)
  · replace h := o_ff c4 h
    refine lv_aload_n hx hb d_MM_end_69 rfl (lv_at hl 3 rfl) ?_
    refine o_get (v := .ref (ad 49)) C in_MT hP 48 mw_48 rfl 0 (by decide) k_7_101 rfl rfl d_MM_end_70 ?_
    refine lv_iload hx hb d_MM_end_73 (lv_at hl 4 rfl) ?_
    refine lv_aload_n hx hb d_MM_end_75 rfl (lv_at hl 0 rfl) ?_
    refine o_get (v := .ref (ad 1)) C in_MM hP 0 mw_0 rfl 3 (by decide) k_7_233 rfl rfl d_MM_end_76 ?_
    refine lv_iload hx hb d_MM_end_79 (lv_at hl 4 rfl) ?_
    obtain ⟨g5, h⟩ := o_gd_some h
    refine o_iald (f := (NI_octets u63_Ni)) C hP 1 0 mw_1 rfl g5 d_MM_end_81 ?_
    obtain ⟨g6, h⟩ := o_gd_some h
    refine o_iast (f := (MT_text z.2.2)) (w1 := (m_cw ad ca ky ty u63_rt u63_Ni u63_Np u63_No u63_Nx u63_Nf u63_Na u63_Nh u63_Nq u63_Nj z.2.1 (MT_mk (upd (MT_text z.2.2) z.1.toNatClampNeg ((NI_octets u63_Ni) z.1.toNatClampNeg)) (MT_kind z.2.2) (MT_place z.2.2) (MT_many z.2.2) (MT_parent z.2.2) (MT_power z.2.2) (MT_first z.2.2) (MT_next z.2.2) (MT_name z.2.2) (MT_from z.2.2) (MT_characters z.2.2) (MT_digits z.2.2) (MT_minus z.2.2) (MT_values z.2.2) (MT_letters z.2.2) (MT_at z.2.2) (MT_wrong z.2.2) (MT_used z.2.2) (MT_written z.2.2) (MT_left z.2.2)))) C hP (hDD _ _ _ _ _ _ _ _ _ _ _ _) hS 49 46 mw_49 rfl g6 rfl d_MM_end_82 (fun H locs hP hS => ?_)
    obtain ⟨x4_83, ex4_83⟩ : ∃ y : Int32, y = z.1 + (1:Int32) := ⟨_, rfl⟩
    replace h := o_nm_at ex4_83 h
    refine lv_iinc (v := x4_83) (lv' := [(4, .int x4_83), (0, .ref (ad 0)), (1, .int u63_x1), (2, .int u63_x2), (3, .ref (ad 48))]) hx hb d_MM_end_83 hl (k := 4) rfl (by rw [ex4_83]; rfl) (by decide) rfl (fun ls hl => ?_)
    refine lv_goto (tgt := 63) hx hb d_MM_end_86 (by decide) ?_
    cases h
    exact h0 rfl _ _ _ hP hS (lv_sub hl [1, 2, 3, 4, 0] rfl)
set_option maxHeartbeats 4000000 in
set_option maxRecDepth 100000 in
theorem f_MM_end_j125 {E : (Nat → Prop) → State → Heap → Prop} {p : Program} {l : Launch} {e : Env} {s : State} {m : MethodId} {args : Array Value} {below : List Frame} {meth : Method} {c : Code} {D : va_G} {ad kd sd vd xd : Nat → Nat} {ca : Nat → ClassId} {A : Nat → Prop} {ky ty : Nat → Option Nat} (hE : o_EK E kd sd vd xd) (hKy : m_KY ky ty sd) (C : o_Cx E p s m args meth c D m_cls (m_tys ca) "SchemaJudgeModel" b_MM_end (some .int) 5 cc_MM_end A) (hDD : ∀ (rt : Nat) (Ni : SNI) (Np : SNP) (No : SNO) (Nx : SNX) (Nf : SNF) (Na : SNA) (Nh : SNH) (Nq : SNQ) (Nj : SNJ) (M0 : SMT) (M1 : SMT), va_D A (m_cw ad ca ky ty rt Ni Np No Nx Nf Na Nh Nq Nj M0 M1)) (n : Nat) (y1 : Int32) (M0 : SMT) (M1 : SMT) (Ni : SNI) (Nf : SNF) (Np : SNP) (No : SNO) (Nx : SNX) (Na : SNA) (Nh : SNH) (Nq : SNQ) (Nj : SNJ) (rt : Nat) {r : Int32 × SMT × SMT × SNI × SNF} (h : m_MM_end_j125 n y1 M0 M1 Ni Nf = some r) : o_At p l e rm_MM_end s m args below meth c (MQ below (o_Qx D m_cls (some (.int r.1)) (m_cw ad ca ky ty rt r.2.2.2.1 Np No Nx r.2.2.2.2 Na Nh Nq Nj r.2.1 r.2.2.1) A) args s 0 0 A) m_cls D A 5 125 [.int y1, .ref (ad 0)] (m_cw ad ca ky ty rt Ni Np No Nx Nf Na Nh Nq Nj M0 M1) [(3, .ref (ad 48))] := by
  unfold m_MM_end_j125 at h
  intro H locs ls hP hS hl
  have C0 := C
  obtain ⟨hx, hb, -, -, -, hown, hts, hK, -, -⟩ := C0
  refine lv_iconst (v := (2:Int32)) hx hb d_MM_end_125 (by decide) ?_
  obtain ⟨q4, hq4, h⟩ := o_bd_some h
  refine o_V (st1 := [.int q4.1]) (w1 := (m_cw ad ca ky ty rt q4.2 Np No Nx Nf Na Nh Nq Nj M0 M1)) hE.1 C (e_MM_fails hE hKy l y1 (2:Int32) Ni Np No Nx Nf Na Nh Nq Nj M0 M1 rt hq4) hP (hDD _ _ _ _ _ _ _ _ _ _ _ _) hS hl.1 rfl mw_0 k_8_176 k_8_178 k_s_81 k_1_12 k_8_179 hv_MM_fails rfl rfl ⟨(Nat.le_of_ble_eq_true rfl), (Nat.le_of_ble_eq_true rfl)⟩ rfl (Nat.le_of_ble_eq_true rfl) ⟨Nat.zero_le _, Nat.zero_le _⟩ rfl d_MM_end_126 (fun H locs hP hS => ?_)
  refine lv_if_eq (tgt := 136) hx hb d_MM_end_129 (by decide) (fun c9 => ?_) (fun c9 => ?_)
  · replace h := o_tt c9 h
    refine lv_aload_n hx hb d_MM_end_136 rfl (lv_at hl 0 rfl) ?_
    refine o_get (v := .int (MT_values M1)) C in_MT hP 48 mw_48 rfl 13 (by decide) k_7_127 rfl rfl d_MM_end_137 ?_
    cases h
    exact o_ri (v := (MT_values M1)) C hP hS d_MM_end_140
  · replace h := o_ff c9 h
    refine lv_iconst (v := (0:Int32)) hx hb d_MM_end_132 (by decide) ?_
    refine lv_goto (tgt := 140) hx hb d_MM_end_133 (by decide) ?_
    cases h
    exact o_ri (v := (0:Int32)) C hP hS d_MM_end_140
set_option maxHeartbeats 4000000 in
set_option maxRecDepth 100000 in
theorem f_MM_end_j103 {E : (Nat → Prop) → State → Heap → Prop} {p : Program} {l : Launch} {e : Env} {s : State} {m : MethodId} {args : Array Value} {below : List Frame} {meth : Method} {c : Code} {D : va_G} {ad kd sd vd xd : Nat → Nat} {ca : Nat → ClassId} {A : Nat → Prop} {ky ty : Nat → Option Nat} (hE : o_EK E kd sd vd xd) (hKy : m_KY ky ty sd) (C : o_Cx E p s m args meth c D m_cls (m_tys ca) "SchemaJudgeModel" b_MM_end (some .int) 5 cc_MM_end A) (hDD : ∀ (rt : Nat) (Ni : SNI) (Np : SNP) (No : SNO) (Nx : SNX) (Nf : SNF) (Na : SNA) (Nh : SNH) (Nq : SNQ) (Nj : SNJ) (M0 : SMT) (M1 : SMT), va_D A (m_cw ad ca ky ty rt Ni Np No Nx Nf Na Nh Nq Nj M0 M1)) (n : Nat) (x2 : Int32) (M0 : SMT) (M1 : SMT) (Ni : SNI) (Nf : SNF) (Np : SNP) (No : SNO) (Nx : SNX) (Na : SNA) (Nh : SNH) (Nq : SNQ) (Nj : SNJ) (rt : Nat) {r : Int32 × SMT × SMT × SNI × SNF} (h : m_MM_end_j103 n x2 M0 M1 Ni Nf = some r) : o_At p l e rm_MM_end s m args below meth c (MQ below (o_Qx D m_cls (some (.int r.1)) (m_cw ad ca ky ty rt r.2.2.2.1 Np No Nx r.2.2.2.2 Na Nh Nq Nj r.2.1 r.2.2.1) A) args s 0 0 A) m_cls D A 5 103 [] (m_cw ad ca ky ty rt Ni Np No Nx Nf Na Nh Nq Nj M0 M1) [(0, .ref (ad 0)), (2, .int x2), (3, .ref (ad 48))] := by
  unfold m_MM_end_j103 at h
  intro H locs ls hP hS hl
  have C0 := C
  obtain ⟨hx, hb, -, -, -, hown, hts, hK, -, -⟩ := C0
  refine lv_aload_n hx hb d_MM_end_103 rfl (lv_at hl 0 rfl) ?_
  refine lv_aload_n hx hb d_MM_end_104 rfl (lv_at hl 2 rfl) ?_
  refine lv_iload_n hx hb d_MM_end_105 rfl (lv_at hl 1 rfl) ?_
  obtain ⟨q3, hq3, h⟩ := o_bd_some h
  refine o_V (st1 := [.int q3.1, .ref (ad 0)]) (w1 := (m_cw ad ca ky ty rt Ni Np No Nx Nf Na Nh Nq Nj M0 q3.2)) hE.1 C (e_MT_read_b hE hKy l n x2 M1 Ni Np No Nx Nf Na Nh Nq Nj M0 rt hq3) hP (hDD _ _ _ _ _ _ _ _ _ _ _ _) hS hl.1 rfl mw_48 k_8_184 k_8_185 k_8_186 k_1_13 k_8_187 hv_MT_read rfl rfl ⟨(Nat.le_of_ble_eq_true rfl), (Nat.le_of_ble_eq_true rfl)⟩ rfl (Nat.le_of_ble_eq_true rfl) ⟨Nat.zero_le _, Nat.zero_le _⟩ rfl d_MM_end_106 (fun H locs hP hS => ?_)
  refine o_put (v := .int q3.1) (ty := .int) (w1 := (m_cw ad ca ky ty rt (NI_mk (NI_err Ni) (NI_fed Ni) q3.1 (NI_octets Ni)) Np No Nx Nf Na Nh Nq Nj M0 q3.2)) C in_MM t_MM t_MM_ok n_MM hP (hDD _ _ _ _ _ _ _ _ _ _ _ _) hS 0 mw_0 rfl 2 (by decide) k_7_232 rfl rfl (by decide +kernel) rfl rfl (Nat.le_of_ble_eq_true rfl) rfl d_MM_end_109 (fun H locs hP hS => ?_)
  refine lv_aload_n hx hb d_MM_end_112 rfl (lv_at hl 0 rfl) ?_
  refine lv_aload_n hx hb d_MM_end_113 rfl (lv_at hl 0 rfl) ?_
  refine o_get (v := .int q3.1) C in_MM hP 0 mw_0 rfl 2 (by decide) k_7_232 rfl rfl d_MM_end_114 ?_
  refine lv_if_lt (tgt := 124) hx hb d_MM_end_117 (by decide) (fun c8 => ?_) (fun c8 => ?_)
  · replace h := o_tt c8 h
    refine lv_iconst (v := (0:Int32)) hx hb d_MM_end_124 (by decide) ?_
    exact f_MM_end_j125 hE hKy C hDD n (0:Int32) M0 q3.2 (NI_mk (NI_err Ni) (NI_fed Ni) q3.1 (NI_octets Ni)) Nf Np No Nx Na Nh Nq Nj rt h _ _ _ hP hS (lv_sub hl [2] rfl)
  · replace h := o_ff c8 h
    refine lv_iconst (v := (1:Int32)) hx hb d_MM_end_120 (by decide) ?_
    refine lv_goto (tgt := 125) hx hb d_MM_end_121 (by decide) ?_
    exact f_MM_end_j125 hE hKy C hDD n (1:Int32) M0 q3.2 (NI_mk (NI_err Ni) (NI_fed Ni) q3.1 (NI_octets Ni)) Nf Np No Nx Na Nh Nq Nj rt h _ _ _ hP hS (lv_sub hl [2] rfl)
set_option maxHeartbeats 4000000 in
set_option maxRecDepth 100000 in
theorem f_MM_end_b63v5 {E : (Nat → Prop) → State → Heap → Prop} {p : Program} {l : Launch} {e : Env} {s : State} {m : MethodId} {args : Array Value} {below : List Frame} {meth : Method} {c : Code} {D : va_G} {ad kd sd vd xd : Nat → Nat} {ca : Nat → ClassId} {A : Nat → Prop} {ky ty : Nat → Option Nat} {Q : State → Prop} (hE : o_EK E kd sd vd xd) (hKy : m_KY ky ty sd) (C : o_Cx E p s m args meth c D m_cls (m_tys ca) "SchemaJudgeModel" b_MM_end (some .int) 5 cc_MM_end A) (hDD : ∀ (rt : Nat) (Ni : SNI) (Np : SNP) (No : SNO) (Nx : SNX) (Nf : SNF) (Na : SNA) (Nh : SNH) (Nq : SNQ) (Nj : SNJ) (M0 : SMT) (M1 : SMT), va_D A (m_cw ad ca ky ty rt Ni Np No Nx Nf Na Nh Nq Nj M0 M1)) (n : Nat) (u63_x1 : Int32) (u63_x2 : Int32) (u63_Ni : SNI) (u63_Nf : SNF) (u63_Np : SNP) (u63_No : SNO) (u63_Nx : SNX) (u63_Na : SNA) (u63_Nh : SNH) (u63_Nq : SNQ) (u63_Nj : SNJ) (u63_rt : Nat) (z : Int32 × SMT × SMT) (q : Nat × Int32 × SMT × SMT) (h : m_MM_end_b63v5 n u63_x1 u63_x2 u63_Ni u63_Nf z = some q) (h0 : q.1 = 0 → o_At p l e rm_MM_end s m args below meth c Q m_cls D A 5 63 [] (m_cw ad ca ky ty u63_rt u63_Ni u63_Np u63_No u63_Nx u63_Nf u63_Na u63_Nh u63_Nq u63_Nj q.2.2.1 q.2.2.2) [(0, .ref (ad 0)), (1, .int u63_x1), (2, .int u63_x2), (3, .ref (ad 33)), (4, .int q.2.1)]) (h1 : q.1 ≠ 0 → (o_At p l e rm_MM_end s m args below meth c Q m_cls D A 5 89 [] (m_cw ad ca ky ty u63_rt u63_Ni u63_Np u63_No u63_Nx u63_Nf u63_Na u63_Nh u63_Nq u63_Nj q.2.2.1 q.2.2.2) [(0, .ref (ad 0)), (1, .int u63_x1), (2, .int u63_x2), (3, .ref (ad 33))])) : o_At p l e rm_MM_end s m args below meth c Q m_cls D A 5 63 [] (m_cw ad ca ky ty u63_rt u63_Ni u63_Np u63_No u63_Nx u63_Nf u63_Na u63_Nh u63_Nq u63_Nj z.2.1 z.2.2) [(0, .ref (ad 0)), (1, .int u63_x1), (2, .int u63_x2), (3, .ref (ad 33)), (4, .int z.1)] := by
  unfold m_MM_end_b63v5 at h
  intro H locs ls hP hS hl
  have C0 := C
  obtain ⟨hx, hb, -, -, -, hown, hts, hK, -, -⟩ := C0
  refine lv_iload hx hb d_MM_end_63 (lv_at hl 4 rfl) ?_
  refine lv_iload_n hx hb d_MM_end_65 rfl (lv_at hl 2 rfl) ?_
  refine lv_icmp_ge (tgt := 89) hx hb d_MM_end_66 (by decide) (fun c10 => ?_) (fun c10 => ?_)
  · replace h := o_tt c10 h
    cases h
    exact h1 (Nat.succ_ne_zero 0) _ _ _ hP hS (lv_sub hl [0, 1, 2, 3] rfl)
  · replace h := o_ff c10 h
    refine lv_aload_n hx hb d_MM_end_69 rfl (lv_at hl 3 rfl) ?_
    refine o_get (v := .ref (ad 34)) C in_MT hP 33 mw_33 rfl 0 (by decide) k_7_101 rfl rfl d_MM_end_70 ?_
    refine lv_iload hx hb d_MM_end_73 (lv_at hl 4 rfl) ?_
    refine lv_aload_n hx hb d_MM_end_75 rfl (lv_at hl 0 rfl) ?_
    refine o_get (v := .ref (ad 1)) C in_MM hP 0 mw_0 rfl 3 (by decide) k_7_233 rfl rfl d_MM_end_76 ?_
    refine lv_iload hx hb d_MM_end_79 (lv_at hl 4 rfl) ?_
    obtain ⟨g11, h⟩ := o_gd_some h
    refine o_iald (f := (NI_octets u63_Ni)) C hP 1 0 mw_1 rfl g11 d_MM_end_81 ?_
    obtain ⟨g12, h⟩ := o_gd_some h
    refine o_iast (f := (MT_text z.2.1)) (w1 := (m_cw ad ca ky ty u63_rt u63_Ni u63_Np u63_No u63_Nx u63_Nf u63_Na u63_Nh u63_Nq u63_Nj (MT_mk (upd (MT_text z.2.1) z.1.toNatClampNeg ((NI_octets u63_Ni) z.1.toNatClampNeg)) (MT_kind z.2.1) (MT_place z.2.1) (MT_many z.2.1) (MT_parent z.2.1) (MT_power z.2.1) (MT_first z.2.1) (MT_next z.2.1) (MT_name z.2.1) (MT_from z.2.1) (MT_characters z.2.1) (MT_digits z.2.1) (MT_minus z.2.1) (MT_values z.2.1) (MT_letters z.2.1) (MT_at z.2.1) (MT_wrong z.2.1) (MT_used z.2.1) (MT_written z.2.1) (MT_left z.2.1)) z.2.2)) C hP (hDD _ _ _ _ _ _ _ _ _ _ _ _) hS 34 32 mw_34 rfl g12 rfl d_MM_end_82 (fun H locs hP hS => ?_)
    obtain ⟨x4_83, ex4_83⟩ : ∃ y : Int32, y = z.1 + (1:Int32) := ⟨_, rfl⟩
    replace h := o_nm_at ex4_83 h
    refine lv_iinc (v := x4_83) (lv' := [(4, .int x4_83), (0, .ref (ad 0)), (1, .int u63_x1), (2, .int u63_x2), (3, .ref (ad 33))]) hx hb d_MM_end_83 hl (k := 4) rfl (by rw [ex4_83]; rfl) (by decide) rfl (fun ls hl => ?_)
    refine lv_goto (tgt := 63) hx hb d_MM_end_86 (by decide) ?_
    cases h
    exact h0 rfl _ _ _ hP hS (lv_sub hl [1, 2, 3, 4, 0] rfl)
set_option maxHeartbeats 4000000 in
set_option maxRecDepth 100000 in
theorem f_MM_end_j125v9 {E : (Nat → Prop) → State → Heap → Prop} {p : Program} {l : Launch} {e : Env} {s : State} {m : MethodId} {args : Array Value} {below : List Frame} {meth : Method} {c : Code} {D : va_G} {ad kd sd vd xd : Nat → Nat} {ca : Nat → ClassId} {A : Nat → Prop} {ky ty : Nat → Option Nat} (hE : o_EK E kd sd vd xd) (hKy : m_KY ky ty sd) (C : o_Cx E p s m args meth c D m_cls (m_tys ca) "SchemaJudgeModel" b_MM_end (some .int) 5 cc_MM_end A) (hDD : ∀ (rt : Nat) (Ni : SNI) (Np : SNP) (No : SNO) (Nx : SNX) (Nf : SNF) (Na : SNA) (Nh : SNH) (Nq : SNQ) (Nj : SNJ) (M0 : SMT) (M1 : SMT), va_D A (m_cw ad ca ky ty rt Ni Np No Nx Nf Na Nh Nq Nj M0 M1)) (n : Nat) (y1 : Int32) (M0 : SMT) (M1 : SMT) (Ni : SNI) (Nf : SNF) (Np : SNP) (No : SNO) (Nx : SNX) (Na : SNA) (Nh : SNH) (Nq : SNQ) (Nj : SNJ) (rt : Nat) {r : Int32 × SMT × SMT × SNI × SNF} (h : m_MM_end_j125v9 n y1 M0 M1 Ni Nf = some r) : o_At p l e rm_MM_end s m args below meth c (MQ below (o_Qx D m_cls (some (.int r.1)) (m_cw ad ca ky ty rt r.2.2.2.1 Np No Nx r.2.2.2.2 Na Nh Nq Nj r.2.1 r.2.2.1) A) args s 0 0 A) m_cls D A 5 125 [.int y1, .ref (ad 0)] (m_cw ad ca ky ty rt Ni Np No Nx Nf Na Nh Nq Nj M0 M1) [(3, .ref (ad 33))] := by
  unfold m_MM_end_j125v9 at h
  intro H locs ls hP hS hl
  have C0 := C
  obtain ⟨hx, hb, -, -, -, hown, hts, hK, -, -⟩ := C0
  refine lv_iconst (v := (2:Int32)) hx hb d_MM_end_125 (by decide) ?_
  obtain ⟨q7, hq7, h⟩ := o_bd_some h
  refine o_V (st1 := [.int q7.1]) (w1 := (m_cw ad ca ky ty rt q7.2 Np No Nx Nf Na Nh Nq Nj M0 M1)) hE.1 C (e_MM_fails hE hKy l y1 (2:Int32) Ni Np No Nx Nf Na Nh Nq Nj M0 M1 rt hq7) hP (hDD _ _ _ _ _ _ _ _ _ _ _ _) hS hl.1 rfl mw_0 k_8_176 k_8_178 k_s_81 k_1_12 k_8_179 hv_MM_fails rfl rfl ⟨(Nat.le_of_ble_eq_true rfl), (Nat.le_of_ble_eq_true rfl)⟩ rfl (Nat.le_of_ble_eq_true rfl) ⟨Nat.zero_le _, Nat.zero_le _⟩ rfl d_MM_end_126 (fun H locs hP hS => ?_)
  refine lv_if_eq (tgt := 136) hx hb d_MM_end_129 (by decide) (fun c15 => ?_) (fun c15 => ?_)
  · replace h := o_tt c15 h
    refine lv_aload_n hx hb d_MM_end_136 rfl (lv_at hl 0 rfl) ?_
    refine o_get (v := .int (MT_values M0)) C in_MT hP 33 mw_33 rfl 13 (by decide) k_7_127 rfl rfl d_MM_end_137 ?_
    cases h
    exact o_ri (v := (MT_values M0)) C hP hS d_MM_end_140
  · replace h := o_ff c15 h
    refine lv_iconst (v := (0:Int32)) hx hb d_MM_end_132 (by decide) ?_
    refine lv_goto (tgt := 140) hx hb d_MM_end_133 (by decide) ?_
    cases h
    exact o_ri (v := (0:Int32)) C hP hS d_MM_end_140
set_option maxHeartbeats 4000000 in
set_option maxRecDepth 100000 in
theorem f_MM_end_j103v7 {E : (Nat → Prop) → State → Heap → Prop} {p : Program} {l : Launch} {e : Env} {s : State} {m : MethodId} {args : Array Value} {below : List Frame} {meth : Method} {c : Code} {D : va_G} {ad kd sd vd xd : Nat → Nat} {ca : Nat → ClassId} {A : Nat → Prop} {ky ty : Nat → Option Nat} (hE : o_EK E kd sd vd xd) (hKy : m_KY ky ty sd) (C : o_Cx E p s m args meth c D m_cls (m_tys ca) "SchemaJudgeModel" b_MM_end (some .int) 5 cc_MM_end A) (hDD : ∀ (rt : Nat) (Ni : SNI) (Np : SNP) (No : SNO) (Nx : SNX) (Nf : SNF) (Na : SNA) (Nh : SNH) (Nq : SNQ) (Nj : SNJ) (M0 : SMT) (M1 : SMT), va_D A (m_cw ad ca ky ty rt Ni Np No Nx Nf Na Nh Nq Nj M0 M1)) (n : Nat) (x2 : Int32) (M0 : SMT) (M1 : SMT) (Ni : SNI) (Nf : SNF) (Np : SNP) (No : SNO) (Nx : SNX) (Na : SNA) (Nh : SNH) (Nq : SNQ) (Nj : SNJ) (rt : Nat) {r : Int32 × SMT × SMT × SNI × SNF} (h : m_MM_end_j103v7 n x2 M0 M1 Ni Nf = some r) : o_At p l e rm_MM_end s m args below meth c (MQ below (o_Qx D m_cls (some (.int r.1)) (m_cw ad ca ky ty rt r.2.2.2.1 Np No Nx r.2.2.2.2 Na Nh Nq Nj r.2.1 r.2.2.1) A) args s 0 0 A) m_cls D A 5 103 [] (m_cw ad ca ky ty rt Ni Np No Nx Nf Na Nh Nq Nj M0 M1) [(0, .ref (ad 0)), (2, .int x2), (3, .ref (ad 33))] := by
  unfold m_MM_end_j103v7 at h
  intro H locs ls hP hS hl
  have C0 := C
  obtain ⟨hx, hb, -, -, -, hown, hts, hK, -, -⟩ := C0
  refine lv_aload_n hx hb d_MM_end_103 rfl (lv_at hl 0 rfl) ?_
  refine lv_aload_n hx hb d_MM_end_104 rfl (lv_at hl 2 rfl) ?_
  refine lv_iload_n hx hb d_MM_end_105 rfl (lv_at hl 1 rfl) ?_
  obtain ⟨q6, hq6, h⟩ := o_bd_some h
  refine o_V (st1 := [.int q6.1, .ref (ad 0)]) (w1 := (m_cw ad ca ky ty rt Ni Np No Nx Nf Na Nh Nq Nj q6.2 M1)) hE.1 C (e_MT_read_a hE hKy l n x2 M0 Ni Np No Nx Nf Na Nh Nq Nj M1 rt hq6) hP (hDD _ _ _ _ _ _ _ _ _ _ _ _) hS hl.1 rfl mw_33 k_8_184 k_8_185 k_8_186 k_1_13 k_8_187 hv_MT_read rfl rfl ⟨(Nat.le_of_ble_eq_true rfl), (Nat.le_of_ble_eq_true rfl)⟩ rfl (Nat.le_of_ble_eq_true rfl) ⟨Nat.zero_le _, Nat.zero_le _⟩ rfl d_MM_end_106 (fun H locs hP hS => ?_)
  refine o_put (v := .int q6.1) (ty := .int) (w1 := (m_cw ad ca ky ty rt (NI_mk (NI_err Ni) (NI_fed Ni) q6.1 (NI_octets Ni)) Np No Nx Nf Na Nh Nq Nj q6.2 M1)) C in_MM t_MM t_MM_ok n_MM hP (hDD _ _ _ _ _ _ _ _ _ _ _ _) hS 0 mw_0 rfl 2 (by decide) k_7_232 rfl rfl (by decide +kernel) rfl rfl (Nat.le_of_ble_eq_true rfl) rfl d_MM_end_109 (fun H locs hP hS => ?_)
  refine lv_aload_n hx hb d_MM_end_112 rfl (lv_at hl 0 rfl) ?_
  refine lv_aload_n hx hb d_MM_end_113 rfl (lv_at hl 0 rfl) ?_
  refine o_get (v := .int q6.1) C in_MM hP 0 mw_0 rfl 2 (by decide) k_7_232 rfl rfl d_MM_end_114 ?_
  refine lv_if_lt (tgt := 124) hx hb d_MM_end_117 (by decide) (fun c14 => ?_) (fun c14 => ?_)
  · replace h := o_tt c14 h
    refine lv_iconst (v := (0:Int32)) hx hb d_MM_end_124 (by decide) ?_
    exact f_MM_end_j125v9 hE hKy C hDD n (0:Int32) q6.2 M1 (NI_mk (NI_err Ni) (NI_fed Ni) q6.1 (NI_octets Ni)) Nf Np No Nx Na Nh Nq Nj rt h _ _ _ hP hS (lv_sub hl [2] rfl)
  · replace h := o_ff c14 h
    refine lv_iconst (v := (1:Int32)) hx hb d_MM_end_120 (by decide) ?_
    refine lv_goto (tgt := 125) hx hb d_MM_end_121 (by decide) ?_
    exact f_MM_end_j125v9 hE hKy C hDD n (1:Int32) q6.2 M1 (NI_mk (NI_err Ni) (NI_fed Ni) q6.1 (NI_octets Ni)) Nf Np No Nx Na Nh Nq Nj rt h _ _ _ hP hS (lv_sub hl [2] rfl)
set_option maxHeartbeats 4000000 in
set_option maxRecDepth 100000 in
theorem f_MM_end_j30 {E : (Nat → Prop) → State → Heap → Prop} {p : Program} {l : Launch} {e : Env} {s : State} {m : MethodId} {args : Array Value} {below : List Frame} {meth : Method} {c : Code} {D : va_G} {ad kd sd vd xd : Nat → Nat} {ca : Nat → ClassId} {A : Nat → Prop} {ky ty : Nat → Option Nat} (hE : o_EK E kd sd vd xd) (hKy : m_KY ky ty sd) (C : o_Cx E p s m args meth c D m_cls (m_tys ca) "SchemaJudgeModel" b_MM_end (some .int) 5 cc_MM_end A) (hDD : ∀ (rt : Nat) (Ni : SNI) (Np : SNP) (No : SNO) (Nx : SNX) (Nf : SNF) (Na : SNA) (Nh : SNH) (Nq : SNQ) (Nj : SNJ) (M0 : SMT) (M1 : SMT), va_D A (m_cw ad ca ky ty rt Ni Np No Nx Nf Na Nh Nq Nj M0 M1)) (n : Nat) (x1 : Int32) (x2 : Int32) (y1 : Int32) (M0 : SMT) (M1 : SMT) (Ni : SNI) (Nf : SNF) (Np : SNP) (No : SNO) (Nx : SNX) (Na : SNA) (Nh : SNH) (Nq : SNQ) (Nj : SNJ) (rt : Nat) {r : Int32 × SMT × SMT × SNI × SNF} (h : m_MM_end_j30 n x1 x2 y1 M0 M1 Ni Nf = some r) : o_At p l e rm_MM_end s m args below meth c (MQ below (o_Qx D m_cls (some (.int r.1)) (m_cw ad ca ky ty rt r.2.2.2.1 Np No Nx r.2.2.2.2 Na Nh Nq Nj r.2.1 r.2.2.1) A) args s 0 0 A) m_cls D A 5 30 [.int y1, .ref (ad 0)] (m_cw ad ca ky ty rt Ni Np No Nx Nf Na Nh Nq Nj M0 M1) [(0, .ref (ad 0)), (1, .int x1), (2, .int x2)] := by
  unfold m_MM_end_j30 at h
  intro H locs ls hP hS hl
  have C0 := C
  obtain ⟨hx, hb, -, -, -, hown, hts, hK, -, -⟩ := C0
  refine lv_iconst (v := (1:Int32)) hx hb d_MM_end_30 (by decide) ?_
  obtain ⟨q1, hq1, h⟩ := o_bd_some h
  refine o_V (st1 := [.int q1.1]) (w1 := (m_cw ad ca ky ty rt q1.2 Np No Nx Nf Na Nh Nq Nj M0 M1)) hE.1 C (e_MM_fails hE hKy l y1 (1:Int32) Ni Np No Nx Nf Na Nh Nq Nj M0 M1 rt hq1) hP (hDD _ _ _ _ _ _ _ _ _ _ _ _) hS hl.1 rfl mw_0 k_8_176 k_8_178 k_s_81 k_1_12 k_8_179 hv_MM_fails rfl rfl ⟨(Nat.le_of_ble_eq_true rfl), (Nat.le_of_ble_eq_true rfl)⟩ rfl (Nat.le_of_ble_eq_true rfl) ⟨Nat.zero_le _, Nat.zero_le _⟩ rfl d_MM_end_31 (fun H locs hP hS => ?_)
  refine lv_if_eq (tgt := 39) hx hb d_MM_end_34 (by decide) (fun c2 => ?_) (fun c2 => ?_)
  · replace h := o_tt c2 h
    refine lv_aload_n hx hb d_MM_end_39 rfl (lv_at hl 0 rfl) ?_
    refine lv_iconst (v := (0:Int32)) hx hb d_MM_end_40 (by decide) ?_
    refine o_put (v := .int (0:Int32)) (ty := .int) (w1 := (m_cw ad ca ky ty rt (NI_mk (NI_err q1.2) (0:Int32) (NI_wrong q1.2) (NI_octets q1.2)) Np No Nx Nf Na Nh Nq Nj M0 M1)) C in_MM t_MM t_MM_ok n_MM hP (hDD _ _ _ _ _ _ _ _ _ _ _ _) hS 0 mw_0 rfl 1 (by decide) k_7_231 rfl rfl (by decide +kernel) rfl rfl (Nat.le_of_ble_eq_true rfl) rfl d_MM_end_41 (fun H locs hP hS => ?_)
    refine lv_iload_n hx hb d_MM_end_44 rfl (lv_at hl 1 rfl) ?_
    refine lv_if_eq (tgt := 55) hx hb d_MM_end_45 (by decide) (fun c3 => ?_) (fun c3 => ?_)
    · replace h := o_tt c3 h
      refine lv_aload_n hx hb d_MM_end_55 rfl (lv_at hl 0 rfl) ?_
      refine o_get (v := .ref (ad 48)) C in_MM hP 0 mw_0 rfl 5 (by decide) k_7_235 rfl rfl d_MM_end_56 ?_
      refine lv_astore_n (lv' := [(3, .ref (ad 48)), (0, .ref (ad 0)), (1, .int x1), (2, .int x2)]) hx hb d_MM_end_59 rfl hl (by decide) rfl (fun ls hl => ?_)
      refine lv_iconst (v := (0:Int32)) hx hb d_MM_end_60 (by decide) ?_
      refine lv_istore (lv' := [(4, .int (0:Int32)), (3, .ref (ad 48)), (0, .ref (ad 0)), (1, .int x1), (2, .int x2)]) hx hb d_MM_end_61 hl (by decide) rfl (fun ls hl => ?_)
      obtain ⟨q2, hq2, h⟩ := o_bd_some h
      refine o_sim2 (AH := fun zz => o_At p l e rm_MM_end s m args below meth c _ m_cls D A 5 63 [] (m_cw ad ca ky ty rt (NI_mk (NI_err q1.2) (0:Int32) (NI_wrong q1.2) (NI_octets q1.2)) Np No Nx Nf Na Nh Nq Nj zz.2.1 zz.2.2) [(0, .ref (ad 0)), (1, .int x1), (2, .int x2), (3, .ref (ad 48)), (4, .int zz.1)]) (AX := fun qq => o_At p l e rm_MM_end s m args below meth c _ m_cls D A 5 89 [] (m_cw ad ca ky ty rt (NI_mk (NI_err q1.2) (0:Int32) (NI_wrong q1.2) (NI_octets q1.2)) Np No Nx Nf Na Nh Nq Nj qq.2.2.1 qq.2.2.2) [(0, .ref (ad 0)), (1, .int x1), (2, .int x2), (3, .ref (ad 48))]) (fun zz qq h h0 h1 => f_MM_end_b63 hE hKy C hDD n x1 x2 (NI_mk (NI_err q1.2) (0:Int32) (NI_wrong q1.2) (NI_octets q1.2)) Nf Np No Nx Na Nh Nq Nj rt zz qq h h0 h1) n _ q2 hq2 ?_ _ _ _ hP hS (lv_sub hl [2, 3, 4, 1, 0] rfl)
      intro H locs ls hP hS hl
      refine lv_iload_n hx hb d_MM_end_89 rfl (lv_at hl 1 rfl) ?_
      refine lv_if_eq (tgt := 103) hx hb d_MM_end_90 (by decide) (fun c7 => ?_) (fun c7 => ?_)
      · replace h := o_tt c7 h
        exact f_MM_end_j103 hE hKy C hDD n x2 q2.2.2.1 q2.2.2.2 (NI_mk (NI_err q1.2) (0:Int32) (NI_wrong q1.2) (NI_octets q1.2)) Nf Np No Nx Na Nh Nq Nj rt h _ _ _ hP hS (lv_sub hl [0, 2, 3] rfl)
      · replace h := o_ff c7 h
        refine lv_aload_n hx hb d_MM_end_93 rfl (lv_at hl 0 rfl) ?_
        refine lv_iconst (v := (0:Int32)) hx hb d_MM_end_94 (by decide) ?_
        refine o_put (v := .int (0:Int32)) (ty := .boolean) (w1 := (m_cw ad ca ky ty rt (NI_mk (NI_err q1.2) (0:Int32) (NI_wrong q1.2) (NI_octets q1.2)) Np No Nx (NF_mk (0:Int32) (NF_faultKind Nf) (NF_faultValue Nf) (NF_latestFault Nf)) Na Nh Nq Nj q2.2.2.1 q2.2.2.2)) C in_MM t_MM t_MM_ok n_MM hP (hDD _ _ _ _ _ _ _ _ _ _ _ _) hS 0 mw_0 rfl 35 (by decide) k_8_25 rfl rfl (by decide +kernel) rfl rfl (Nat.le_of_ble_eq_true rfl) rfl d_MM_end_95 (fun H locs hP hS => ?_)
        refine lv_aload_n hx hb d_MM_end_98 rfl (lv_at hl 0 rfl) ?_
        refine lv_iconst (v := (-1:Int32)) hx hb d_MM_end_99 (by decide) ?_
        refine o_put (v := .int (-1:Int32)) (ty := .int) (w1 := (m_cw ad ca ky ty rt (NI_mk (NI_err q1.2) (0:Int32) (NI_wrong q1.2) (NI_octets q1.2)) Np No Nx (NF_mk (0:Int32) (NF_faultKind Nf) (NF_faultValue Nf) (-1:Int32)) Na Nh Nq Nj q2.2.2.1 q2.2.2.2)) C in_MM t_MM t_MM_ok n_MM hP (hDD _ _ _ _ _ _ _ _ _ _ _ _) hS 0 mw_0 rfl 38 (by decide) k_8_28 rfl rfl (by decide +kernel) rfl rfl (Nat.le_of_ble_eq_true rfl) rfl d_MM_end_100 (fun H locs hP hS => ?_)
        exact f_MM_end_j103 hE hKy C hDD n x2 q2.2.2.1 q2.2.2.2 (NI_mk (NI_err q1.2) (0:Int32) (NI_wrong q1.2) (NI_octets q1.2)) (NF_mk (0:Int32) (NF_faultKind Nf) (NF_faultValue Nf) (-1:Int32)) Np No Nx Na Nh Nq Nj rt h _ _ _ hP hS (lv_sub hl [0, 2, 3] rfl)
    · replace h := o_ff c3 h
      refine lv_aload_n hx hb d_MM_end_48 rfl (lv_at hl 0 rfl) ?_
      refine o_get (v := .ref (ad 33)) C in_MM hP 0 mw_0 rfl 4 (by decide) k_7_234 rfl rfl d_MM_end_49 ?_
      refine lv_goto (tgt := 59) hx hb d_MM_end_52 (by decide) ?_
      refine lv_astore_n (lv' := [(3, .ref (ad 33)), (0, .ref (ad 0)), (1, .int x1), (2, .int x2)]) hx hb d_MM_end_59 rfl hl (by decide) rfl (fun ls hl => ?_)
      refine lv_iconst (v := (0:Int32)) hx hb d_MM_end_60 (by decide) ?_
      refine lv_istore (lv' := [(4, .int (0:Int32)), (3, .ref (ad 33)), (0, .ref (ad 0)), (1, .int x1), (2, .int x2)]) hx hb d_MM_end_61 hl (by decide) rfl (fun ls hl => ?_)
      obtain ⟨q5, hq5, h⟩ := o_bd_some h
      refine o_sim2 (AH := fun zz => o_At p l e rm_MM_end s m args below meth c _ m_cls D A 5 63 [] (m_cw ad ca ky ty rt (NI_mk (NI_err q1.2) (0:Int32) (NI_wrong q1.2) (NI_octets q1.2)) Np No Nx Nf Na Nh Nq Nj zz.2.1 zz.2.2) [(0, .ref (ad 0)), (1, .int x1), (2, .int x2), (3, .ref (ad 33)), (4, .int zz.1)]) (AX := fun qq => o_At p l e rm_MM_end s m args below meth c _ m_cls D A 5 89 [] (m_cw ad ca ky ty rt (NI_mk (NI_err q1.2) (0:Int32) (NI_wrong q1.2) (NI_octets q1.2)) Np No Nx Nf Na Nh Nq Nj qq.2.2.1 qq.2.2.2) [(0, .ref (ad 0)), (1, .int x1), (2, .int x2), (3, .ref (ad 33))]) (fun zz qq h h0 h1 => f_MM_end_b63v5 hE hKy C hDD n x1 x2 (NI_mk (NI_err q1.2) (0:Int32) (NI_wrong q1.2) (NI_octets q1.2)) Nf Np No Nx Na Nh Nq Nj rt zz qq h h0 h1) n _ q5 hq5 ?_ _ _ _ hP hS (lv_sub hl [2, 3, 4, 1, 0] rfl)
      intro H locs ls hP hS hl
      refine lv_iload_n hx hb d_MM_end_89 rfl (lv_at hl 1 rfl) ?_
      refine lv_if_eq (tgt := 103) hx hb d_MM_end_90 (by decide) (fun c13 => ?_) (fun c13 => ?_)
      · replace h := o_tt c13 h
        exact f_MM_end_j103v7 hE hKy C hDD n x2 q5.2.2.1 q5.2.2.2 (NI_mk (NI_err q1.2) (0:Int32) (NI_wrong q1.2) (NI_octets q1.2)) Nf Np No Nx Na Nh Nq Nj rt h _ _ _ hP hS (lv_sub hl [0, 2, 3] rfl)
      · replace h := o_ff c13 h
        refine lv_aload_n hx hb d_MM_end_93 rfl (lv_at hl 0 rfl) ?_
        refine lv_iconst (v := (0:Int32)) hx hb d_MM_end_94 (by decide) ?_
        refine o_put (v := .int (0:Int32)) (ty := .boolean) (w1 := (m_cw ad ca ky ty rt (NI_mk (NI_err q1.2) (0:Int32) (NI_wrong q1.2) (NI_octets q1.2)) Np No Nx (NF_mk (0:Int32) (NF_faultKind Nf) (NF_faultValue Nf) (NF_latestFault Nf)) Na Nh Nq Nj q5.2.2.1 q5.2.2.2)) C in_MM t_MM t_MM_ok n_MM hP (hDD _ _ _ _ _ _ _ _ _ _ _ _) hS 0 mw_0 rfl 35 (by decide) k_8_25 rfl rfl (by decide +kernel) rfl rfl (Nat.le_of_ble_eq_true rfl) rfl d_MM_end_95 (fun H locs hP hS => ?_)
        refine lv_aload_n hx hb d_MM_end_98 rfl (lv_at hl 0 rfl) ?_
        refine lv_iconst (v := (-1:Int32)) hx hb d_MM_end_99 (by decide) ?_
        refine o_put (v := .int (-1:Int32)) (ty := .int) (w1 := (m_cw ad ca ky ty rt (NI_mk (NI_err q1.2) (0:Int32) (NI_wrong q1.2) (NI_octets q1.2)) Np No Nx (NF_mk (0:Int32) (NF_faultKind Nf) (NF_faultValue Nf) (-1:Int32)) Na Nh Nq Nj q5.2.2.1 q5.2.2.2)) C in_MM t_MM t_MM_ok n_MM hP (hDD _ _ _ _ _ _ _ _ _ _ _ _) hS 0 mw_0 rfl 38 (by decide) k_8_28 rfl rfl (by decide +kernel) rfl rfl (Nat.le_of_ble_eq_true rfl) rfl d_MM_end_100 (fun H locs hP hS => ?_)
        exact f_MM_end_j103v7 hE hKy C hDD n x2 q5.2.2.1 q5.2.2.2 (NI_mk (NI_err q1.2) (0:Int32) (NI_wrong q1.2) (NI_octets q1.2)) (NF_mk (0:Int32) (NF_faultKind Nf) (NF_faultValue Nf) (-1:Int32)) Np No Nx Na Nh Nq Nj rt h _ _ _ hP hS (lv_sub hl [0, 2, 3] rfl)
  · replace h := o_ff c2 h
    refine lv_iconst (v := (0:Int32)) hx hb d_MM_end_37 (by decide) ?_
    cases h
    exact o_ri (v := (0:Int32)) C hP hS d_MM_end_38
set_option maxHeartbeats 4000000 in
set_option maxRecDepth 100000 in
theorem e_MM_end {E : (Nat → Prop) → State → Heap → Prop} {D : va_G} {ad kd sd vd xd : Nat → Nat} {ca : Nat → ClassId} {ky ty : Nat → Option Nat} (hE : o_EK E kd sd vd xd) (hKy : m_KY ky ty sd) (l : Launch) (n : Nat) (x1 : Int32) (x2 : Int32) (M0 : SMT) (M1 : SMT) (Ni : SNI) (Nf : SNF) (Np : SNP) (No : SNO) (Nx : SNX) (Na : SNA) (Nh : SNH) (Nq : SNQ) (Nj : SNJ) (rt : Nat) {r : Int32 × SMT × SMT × SNI × SNF} (h : m_MM_end n x1 x2 M0 M1 Ni Nf = some r) : o_Cn E l D m_cls (m_tys ca) y_MM_end cc_MM_end rm_MM_end [.ref (ad 0), .int x1, .int x2] (m_cw ad ca ky ty rt Ni Np No Nx Nf Na Nh Nq Nj M0 M1) (m_cw ad ca ky ty rt r.2.2.2.1 Np No Nx r.2.2.2.2 Na Nh Nq Nj r.2.1 r.2.2.1) (some (.int r.1)) := by
  refine o_Cn_of (by decide) (Nat.le_of_ble_eq_true rfl) ?_
  intro p e s m below meth c A ls C hD hP hS hl
  have hDD : ∀ (rt : Nat) (Ni : SNI) (Np : SNP) (No : SNO) (Nx : SNX) (Nf : SNF) (Na : SNA) (Nh : SNH) (Nq : SNQ) (Nj : SNJ) (M0 : SMT) (M1 : SMT), va_D A (m_cw ad ca ky ty rt Ni Np No Nx Nf Na Nh Nq Nj M0 M1) := fun _ _ _ _ _ _ _ _ _ _ _ _ => o_D_map hD rfl
  have hl : lv_has ls 5 [(0, .ref (ad 0)), (1, .int x1), (2, .int x2)] := hl
  unfold m_MM_end at h
  have C0 := C
  obtain ⟨hx, hb, -, -, -, hown, hts, hK, -, -⟩ := C0
  refine lv_aload_n hx hb d_MM_end_0 rfl (lv_at hl 0 rfl) ?_
  refine lv_iconst (v := (0:Int32)) hx hb d_MM_end_1 (by decide) ?_
  refine o_put (v := .int (0:Int32)) (ty := .int) (w1 := (m_cw ad ca ky ty rt (NI_mk (0:Int32) (NI_fed Ni) (NI_wrong Ni) (NI_octets Ni)) Np No Nx Nf Na Nh Nq Nj M0 M1)) C in_MM t_MM t_MM_ok n_MM hP (hDD _ _ _ _ _ _ _ _ _ _ _ _) hS 0 mw_0 rfl 0 (by decide) k_7_230 rfl rfl (by decide +kernel) rfl rfl (Nat.le_of_ble_eq_true rfl) rfl d_MM_end_2 (fun H locs hP hS => ?_)
  refine lv_aload_n hx hb d_MM_end_5 rfl (lv_at hl 0 rfl) ?_
  refine lv_iload_n hx hb d_MM_end_6 rfl (lv_at hl 2 rfl) ?_
  refine lv_if_lt (tgt := 25) hx hb d_MM_end_7 (by decide) (fun c1 => ?_) (fun c1 => ?_)
  · replace h := o_tt c1 h
    refine lv_iconst (v := (1:Int32)) hx hb d_MM_end_25 (by decide) ?_
    refine lv_goto (tgt := 30) hx hb d_MM_end_26 (by decide) ?_
    exact f_MM_end_j30 hE hKy C hDD n x1 x2 (1:Int32) M0 M1 (NI_mk (0:Int32) (NI_fed Ni) (NI_wrong Ni) (NI_octets Ni)) Nf Np No Nx Na Nh Nq Nj rt h _ _ _ hP hS (lv_sub hl [0, 1, 2] rfl)
  · replace h := o_ff c1 h
    refine lv_iload_n hx hb d_MM_end_10 rfl (lv_at hl 2 rfl) ?_
    refine lv_sipush (v := (8192:Int32)) hx hb d_MM_end_11 (by decide) ?_
    refine lv_icmp_gt (tgt := 25) hx hb d_MM_end_14 (by decide) (fun c16 => ?_) (fun c16 => ?_)
    · replace h := o_tt c16 h
      refine lv_iconst (v := (1:Int32)) hx hb d_MM_end_25 (by decide) ?_
      refine lv_goto (tgt := 30) hx hb d_MM_end_26 (by decide) ?_
      exact f_MM_end_j30 hE hKy C hDD n x1 x2 (1:Int32) M0 M1 (NI_mk (0:Int32) (NI_fed Ni) (NI_wrong Ni) (NI_octets Ni)) Nf Np No Nx Na Nh Nq Nj rt h _ _ _ hP hS (lv_sub hl [0, 1, 2] rfl)
    · replace h := o_ff c16 h
      refine lv_iload_n hx hb d_MM_end_17 rfl (lv_at hl 2 rfl) ?_
      refine lv_aload_n hx hb d_MM_end_18 rfl (lv_at hl 0 rfl) ?_
      refine o_get (v := .int (NI_fed Ni)) C in_MM hP 0 mw_0 rfl 1 (by decide) k_7_231 rfl rfl d_MM_end_19 ?_
      refine lv_icmp_le (tgt := 29) hx hb d_MM_end_22 (by decide) (fun c17 => ?_) (fun c17 => ?_)
      · replace h := o_tt c17 h
        refine lv_iconst (v := (0:Int32)) hx hb d_MM_end_29 (by decide) ?_
        exact f_MM_end_j30 hE hKy C hDD n x1 x2 (0:Int32) M0 M1 (NI_mk (0:Int32) (NI_fed Ni) (NI_wrong Ni) (NI_octets Ni)) Nf Np No Nx Na Nh Nq Nj rt h _ _ _ hP hS (lv_sub hl [0, 1, 2] rfl)
      · replace h := o_ff c17 h
        refine lv_iconst (v := (1:Int32)) hx hb d_MM_end_25 (by decide) ?_
        refine lv_goto (tgt := 30) hx hb d_MM_end_26 (by decide) ?_
        exact f_MM_end_j30 hE hKy C hDD n x1 x2 (1:Int32) M0 M1 (NI_mk (0:Int32) (NI_fed Ni) (NI_wrong Ni) (NI_octets Ni)) Nf Np No Nx Na Nh Nq Nj rt h _ _ _ hP hS (lv_sub hl [0, 1, 2] rfl)
set_option maxHeartbeats 4000000 in
set_option maxRecDepth 100000 in
theorem e_MM_wrong {E : (Nat → Prop) → State → Heap → Prop} {D : va_G} {ad kd sd vd xd : Nat → Nat} {ca : Nat → ClassId} {ky ty : Nat → Option Nat} (hE : o_EK E kd sd vd xd) (hKy : m_KY ky ty sd) (l : Launch)  (Ni : SNI) (Np : SNP) (No : SNO) (Nx : SNX) (Nf : SNF) (Na : SNA) (Nh : SNH) (Nq : SNQ) (Nj : SNJ) (M0 : SMT) (M1 : SMT) (rt : Nat) {r : Int32 × SNI} (h : m_MM_wrong Ni = some r) : o_Cn E l D m_cls (m_tys ca) y_MM_wrong cc_MM_wrong rm_MM_wrong [.ref (ad 0)] (m_cw ad ca ky ty rt Ni Np No Nx Nf Na Nh Nq Nj M0 M1) (m_cw ad ca ky ty rt r.2 Np No Nx Nf Na Nh Nq Nj M0 M1) (some (.int r.1)) := by
  refine o_Cn_of (by decide) (Nat.le_of_ble_eq_true rfl) ?_
  intro p e s m below meth c A ls C hD hP hS hl
  have hDD : ∀ (rt : Nat) (Ni : SNI) (Np : SNP) (No : SNO) (Nx : SNX) (Nf : SNF) (Na : SNA) (Nh : SNH) (Nq : SNQ) (Nj : SNJ) (M0 : SMT) (M1 : SMT), va_D A (m_cw ad ca ky ty rt Ni Np No Nx Nf Na Nh Nq Nj M0 M1) := fun _ _ _ _ _ _ _ _ _ _ _ _ => o_D_map hD rfl
  have hl : lv_has ls 1 [(0, .ref (ad 0))] := hl
  unfold m_MM_wrong at h
  have C0 := C
  obtain ⟨hx, hb, -, -, -, hown, hts, hK, -, -⟩ := C0
  refine lv_aload_n hx hb d_MM_wrong_0 rfl (lv_at hl 0 rfl) ?_
  refine lv_iconst (v := (0:Int32)) hx hb d_MM_wrong_1 (by decide) ?_
  refine o_put (v := .int (0:Int32)) (ty := .int) (w1 := (m_cw ad ca ky ty rt (NI_mk (0:Int32) (NI_fed Ni) (NI_wrong Ni) (NI_octets Ni)) Np No Nx Nf Na Nh Nq Nj M0 M1)) C in_MM t_MM t_MM_ok n_MM hP (hDD _ _ _ _ _ _ _ _ _ _ _ _) hS 0 mw_0 rfl 0 (by decide) k_7_230 rfl rfl (by decide +kernel) rfl rfl (Nat.le_of_ble_eq_true rfl) rfl d_MM_wrong_2 (fun H locs hP hS => ?_)
  refine lv_aload_n hx hb d_MM_wrong_5 rfl (lv_at hl 0 rfl) ?_
  refine o_get (v := .int (NI_wrong Ni)) C in_MM hP 0 mw_0 rfl 2 (by decide) k_7_232 rfl rfl d_MM_wrong_6 ?_
  cases h
  exact o_ri (v := (NI_wrong Ni)) C hP hS d_MM_wrong_9
set_option maxHeartbeats 4000000 in
set_option maxRecDepth 100000 in
theorem e_MM_p_a {E : (Nat → Prop) → State → Heap → Prop} {D : va_G} {ad kd sd vd xd : Nat → Nat} {ca : Nat → ClassId} {ky ty : Nat → Option Nat} (hE : o_EK E kd sd vd xd) (hKy : m_KY ky ty sd) (l : Launch) (x1 : Int32) (tc : SMT) (Np : SNP) (Ni : SNI) (No : SNO) (Nx : SNX) (Nf : SNF) (Na : SNA) (Nh : SNH) (Nq : SNQ) (Nj : SNJ) (M1 : SMT) {r : Int32} (h : m_MM_p x1 tc Np = some r) : o_Cn E l D m_cls (m_tys ca) y_MM_p cc_MM_p rm_MM_p [.ref (ad 0), .int x1] (m_cw ad ca ky ty 33 Ni Np No Nx Nf Na Nh Nq Nj tc M1) (m_cw ad ca ky ty 33 Ni Np No Nx Nf Na Nh Nq Nj tc M1) (some (.int r)) := by
  refine o_Cn_of (by decide) (Nat.le_of_ble_eq_true rfl) ?_
  intro p e s m below meth c A ls C hD hP hS hl
  have hDD : ∀ (rt : Nat) (Ni : SNI) (Np : SNP) (No : SNO) (Nx : SNX) (Nf : SNF) (Na : SNA) (Nh : SNH) (Nq : SNQ) (Nj : SNJ) (M0 : SMT) (M1 : SMT), va_D A (m_cw ad ca ky ty rt Ni Np No Nx Nf Na Nh Nq Nj M0 M1) := fun _ _ _ _ _ _ _ _ _ _ _ _ => o_D_map hD rfl
  have hl : lv_has ls 2 [(0, .ref (ad 0)), (1, .int x1)] := hl
  unfold m_MM_p at h
  have C0 := C
  obtain ⟨hx, hb, -, -, -, hown, hts, hK, -, -⟩ := C0
  refine lv_aload_n hx hb d_MM_p_0 rfl (lv_at hl 0 rfl) ?_
  refine o_get (v := .int (NP_pat Np)) C in_MM hP 0 mw_0 rfl 27 (by decide) k_8_17 rfl rfl d_MM_p_1 ?_
  refine lv_iload_n hx hb d_MM_p_4 rfl (lv_at hl 1 rfl) ?_
  refine lv_iadd hx hb d_MM_p_5 ?_
  refine lv_aload_n hx hb d_MM_p_6 rfl (lv_at hl 0 rfl) ?_
  refine o_get (v := .int (NP_patEnd Np)) C in_MM hP 0 mw_0 rfl 28 (by decide) k_8_18 rfl rfl d_MM_p_7 ?_
  refine lv_icmp_ge (tgt := 30) hx hb d_MM_p_10 (by decide) (fun c1 => ?_) (fun c1 => ?_)
  · replace h := o_tt c1 h
    refine lv_iconst (v := (-1:Int32)) hx hb d_MM_p_30 (by decide) ?_
    cases h
    exact o_ri (v := (-1:Int32)) C hP hS d_MM_p_31
  · replace h := o_ff c1 h
    refine lv_aload_n hx hb d_MM_p_13 rfl (lv_at hl 0 rfl) ?_
    refine o_get (v := .ref (ad 33)) C in_MM hP 0 mw_0 rfl 31 (by decide) k_8_21 rfl rfl d_MM_p_14 ?_
    refine o_get (v := .ref (ad 44)) C in_MT hP 33 mw_33 rfl 10 (by decide) k_7_121 rfl rfl d_MM_p_17 ?_
    refine lv_aload_n hx hb d_MM_p_20 rfl (lv_at hl 0 rfl) ?_
    refine o_get (v := .int (NP_pat Np)) C in_MM hP 0 mw_0 rfl 27 (by decide) k_8_17 rfl rfl d_MM_p_21 ?_
    refine lv_iload_n hx hb d_MM_p_24 rfl (lv_at hl 1 rfl) ?_
    refine lv_iadd hx hb d_MM_p_25 ?_
    obtain ⟨g2, h⟩ := o_gd_some h
    refine o_iald (f := (MT_characters tc)) C hP 44 42 mw_44 rfl g2 d_MM_p_26 ?_
    refine lv_goto (tgt := 31) hx hb d_MM_p_27 (by decide) ?_
    cases h
    exact o_ri (v := ((MT_characters tc) ((NP_pat Np) + x1).toNatClampNeg)) C hP hS d_MM_p_31
set_option maxHeartbeats 4000000 in
set_option maxRecDepth 100000 in
theorem e_MM_p_b {E : (Nat → Prop) → State → Heap → Prop} {D : va_G} {ad kd sd vd xd : Nat → Nat} {ca : Nat → ClassId} {ky ty : Nat → Option Nat} (hE : o_EK E kd sd vd xd) (hKy : m_KY ky ty sd) (l : Launch) (x1 : Int32) (tc : SMT) (Np : SNP) (Ni : SNI) (No : SNO) (Nx : SNX) (Nf : SNF) (Na : SNA) (Nh : SNH) (Nq : SNQ) (Nj : SNJ) (M0 : SMT) {r : Int32} (h : m_MM_p x1 tc Np = some r) : o_Cn E l D m_cls (m_tys ca) y_MM_p cc_MM_p rm_MM_p [.ref (ad 0), .int x1] (m_cw ad ca ky ty 48 Ni Np No Nx Nf Na Nh Nq Nj M0 tc) (m_cw ad ca ky ty 48 Ni Np No Nx Nf Na Nh Nq Nj M0 tc) (some (.int r)) := by
  refine o_Cn_of (by decide) (Nat.le_of_ble_eq_true rfl) ?_
  intro p e s m below meth c A ls C hD hP hS hl
  have hDD : ∀ (rt : Nat) (Ni : SNI) (Np : SNP) (No : SNO) (Nx : SNX) (Nf : SNF) (Na : SNA) (Nh : SNH) (Nq : SNQ) (Nj : SNJ) (M0 : SMT) (M1 : SMT), va_D A (m_cw ad ca ky ty rt Ni Np No Nx Nf Na Nh Nq Nj M0 M1) := fun _ _ _ _ _ _ _ _ _ _ _ _ => o_D_map hD rfl
  have hl : lv_has ls 2 [(0, .ref (ad 0)), (1, .int x1)] := hl
  unfold m_MM_p at h
  have C0 := C
  obtain ⟨hx, hb, -, -, -, hown, hts, hK, -, -⟩ := C0
  refine lv_aload_n hx hb d_MM_p_0 rfl (lv_at hl 0 rfl) ?_
  refine o_get (v := .int (NP_pat Np)) C in_MM hP 0 mw_0 rfl 27 (by decide) k_8_17 rfl rfl d_MM_p_1 ?_
  refine lv_iload_n hx hb d_MM_p_4 rfl (lv_at hl 1 rfl) ?_
  refine lv_iadd hx hb d_MM_p_5 ?_
  refine lv_aload_n hx hb d_MM_p_6 rfl (lv_at hl 0 rfl) ?_
  refine o_get (v := .int (NP_patEnd Np)) C in_MM hP 0 mw_0 rfl 28 (by decide) k_8_18 rfl rfl d_MM_p_7 ?_
  refine lv_icmp_ge (tgt := 30) hx hb d_MM_p_10 (by decide) (fun c1 => ?_) (fun c1 => ?_)
  · replace h := o_tt c1 h
    refine lv_iconst (v := (-1:Int32)) hx hb d_MM_p_30 (by decide) ?_
    cases h
    exact o_ri (v := (-1:Int32)) C hP hS d_MM_p_31
  · replace h := o_ff c1 h
    refine lv_aload_n hx hb d_MM_p_13 rfl (lv_at hl 0 rfl) ?_
    refine o_get (v := .ref (ad 48)) C in_MM hP 0 mw_0 rfl 31 (by decide) k_8_21 rfl rfl d_MM_p_14 ?_
    refine o_get (v := .ref (ad 59)) C in_MT hP 48 mw_48 rfl 10 (by decide) k_7_121 rfl rfl d_MM_p_17 ?_
    refine lv_aload_n hx hb d_MM_p_20 rfl (lv_at hl 0 rfl) ?_
    refine o_get (v := .int (NP_pat Np)) C in_MM hP 0 mw_0 rfl 27 (by decide) k_8_17 rfl rfl d_MM_p_21 ?_
    refine lv_iload_n hx hb d_MM_p_24 rfl (lv_at hl 1 rfl) ?_
    refine lv_iadd hx hb d_MM_p_25 ?_
    obtain ⟨g2, h⟩ := o_gd_some h
    refine o_iald (f := (MT_characters tc)) C hP 59 56 mw_59 rfl g2 d_MM_p_26 ?_
    refine lv_goto (tgt := 31) hx hb d_MM_p_27 (by decide) ?_
    cases h
    exact o_ri (v := ((MT_characters tc) ((NP_pat Np) + x1).toNatClampNeg)) C hP hS d_MM_p_31
set_option maxHeartbeats 4000000 in
set_option maxRecDepth 100000 in
theorem e_MM_node {E : (Nat → Prop) → State → Heap → Prop} {D : va_G} {ad kd sd vd xd : Nat → Nat} {ca : Nat → ClassId} {ky ty : Nat → Option Nat} (hE : o_EK E kd sd vd xd) (hKy : m_KY ky ty sd) (l : Launch) (x1 : Int32) (x2 : Int32) (Np : SNP) (Ni : SNI) (No : SNO) (Nx : SNX) (Nf : SNF) (Na : SNA) (Nh : SNH) (Nq : SNQ) (Nj : SNJ) (M0 : SMT) (M1 : SMT) (rt : Nat) {r : Int32 × SNP} (h : m_MM_node x1 x2 Np = some r) : o_Cn E l D m_cls (m_tys ca) y_MM_node cc_MM_node rm_MM_node [.ref (ad 0), .int x1, .int x2] (m_cw ad ca ky ty rt Ni Np No Nx Nf Na Nh Nq Nj M0 M1) (m_cw ad ca ky ty rt Ni r.2 No Nx Nf Na Nh Nq Nj M0 M1) (some (.int r.1)) := by
  refine o_Cn_of (by decide) (Nat.le_of_ble_eq_true rfl) ?_
  intro p e s m below meth c A ls C hD hP hS hl
  have hDD : ∀ (rt : Nat) (Ni : SNI) (Np : SNP) (No : SNO) (Nx : SNX) (Nf : SNF) (Na : SNA) (Nh : SNH) (Nq : SNQ) (Nj : SNJ) (M0 : SMT) (M1 : SMT), va_D A (m_cw ad ca ky ty rt Ni Np No Nx Nf Na Nh Nq Nj M0 M1) := fun _ _ _ _ _ _ _ _ _ _ _ _ => o_D_map hD rfl
  have hl : lv_has ls 3 [(0, .ref (ad 0)), (1, .int x1), (2, .int x2)] := hl
  unfold m_MM_node at h
  have C0 := C
  obtain ⟨hx, hb, -, -, -, hown, hts, hK, -, -⟩ := C0
  refine lv_aload_n hx hb d_MM_node_0 rfl (lv_at hl 0 rfl) ?_
  refine o_get (v := .ref (ad 2)) C in_MM hP 0 mw_0 rfl 6 (by decide) k_7_236 rfl rfl d_MM_node_1 ?_
  refine lv_aload_n hx hb d_MM_node_4 rfl (lv_at hl 0 rfl) ?_
  refine o_get (v := .int (NP_nodes Np)) C in_MM hP 0 mw_0 rfl 23 (by decide) k_8_13 rfl rfl d_MM_node_5 ?_
  refine lv_iload_n hx hb d_MM_node_8 rfl (lv_at hl 1 rfl) ?_
  obtain ⟨g1, h⟩ := o_gd_some h
  refine o_iast (f := (NP_nodeKind Np)) (w1 := (m_cw ad ca ky ty rt Ni (NP_mk (upd (NP_nodeKind Np) (NP_nodes Np).toNatClampNeg x1) (NP_nodeA Np) (NP_nodeB Np) (NP_nodeC Np) (NP_nodeNext Np) (NP_low Np) (NP_high Np) (NP_setFrom Np) (NP_setTo Np) (NP_setNot Np) (NP_nodes Np) (NP_sets Np) (NP_ranges Np) (NP_pat Np) (NP_patEnd Np) (NP_broken Np)) No Nx Nf Na Nh Nq Nj M0 M1)) C hP (hDD _ _ _ _ _ _ _ _ _ _ _ _) hS 2 1 mw_2 rfl g1 rfl d_MM_node_9 (fun H locs hP hS => ?_)
  refine lv_aload_n hx hb d_MM_node_10 rfl (lv_at hl 0 rfl) ?_
  refine o_get (v := .ref (ad 3)) C in_MM hP 0 mw_0 rfl 7 (by decide) k_7_237 rfl rfl d_MM_node_11 ?_
  refine lv_aload_n hx hb d_MM_node_14 rfl (lv_at hl 0 rfl) ?_
  refine o_get (v := .int (NP_nodes Np)) C in_MM hP 0 mw_0 rfl 23 (by decide) k_8_13 rfl rfl d_MM_node_15 ?_
  refine lv_iload_n hx hb d_MM_node_18 rfl (lv_at hl 2 rfl) ?_
  obtain ⟨g2, h⟩ := o_gd_some h
  refine o_iast (f := (NP_nodeA Np)) (w1 := (m_cw ad ca ky ty rt Ni (NP_mk (upd (NP_nodeKind Np) (NP_nodes Np).toNatClampNeg x1) (upd (NP_nodeA Np) (NP_nodes Np).toNatClampNeg x2) (NP_nodeB Np) (NP_nodeC Np) (NP_nodeNext Np) (NP_low Np) (NP_high Np) (NP_setFrom Np) (NP_setTo Np) (NP_setNot Np) (NP_nodes Np) (NP_sets Np) (NP_ranges Np) (NP_pat Np) (NP_patEnd Np) (NP_broken Np)) No Nx Nf Na Nh Nq Nj M0 M1)) C hP (hDD _ _ _ _ _ _ _ _ _ _ _ _) hS 3 2 mw_3 rfl g2 rfl d_MM_node_19 (fun H locs hP hS => ?_)
  refine lv_aload_n hx hb d_MM_node_20 rfl (lv_at hl 0 rfl) ?_
  refine o_get (v := .ref (ad 4)) C in_MM hP 0 mw_0 rfl 8 (by decide) k_7_238 rfl rfl d_MM_node_21 ?_
  refine lv_aload_n hx hb d_MM_node_24 rfl (lv_at hl 0 rfl) ?_
  refine o_get (v := .int (NP_nodes Np)) C in_MM hP 0 mw_0 rfl 23 (by decide) k_8_13 rfl rfl d_MM_node_25 ?_
  refine lv_iconst (v := (0:Int32)) hx hb d_MM_node_28 (by decide) ?_
  obtain ⟨g3, h⟩ := o_gd_some h
  refine o_iast (f := (NP_nodeB Np)) (w1 := (m_cw ad ca ky ty rt Ni (NP_mk (upd (NP_nodeKind Np) (NP_nodes Np).toNatClampNeg x1) (upd (NP_nodeA Np) (NP_nodes Np).toNatClampNeg x2) (upd (NP_nodeB Np) (NP_nodes Np).toNatClampNeg (0:Int32)) (NP_nodeC Np) (NP_nodeNext Np) (NP_low Np) (NP_high Np) (NP_setFrom Np) (NP_setTo Np) (NP_setNot Np) (NP_nodes Np) (NP_sets Np) (NP_ranges Np) (NP_pat Np) (NP_patEnd Np) (NP_broken Np)) No Nx Nf Na Nh Nq Nj M0 M1)) C hP (hDD _ _ _ _ _ _ _ _ _ _ _ _) hS 4 3 mw_4 rfl g3 rfl d_MM_node_29 (fun H locs hP hS => ?_)
  refine lv_aload_n hx hb d_MM_node_30 rfl (lv_at hl 0 rfl) ?_
  refine o_get (v := .ref (ad 5)) C in_MM hP 0 mw_0 rfl 9 (by decide) k_7_239 rfl rfl d_MM_node_31 ?_
  refine lv_aload_n hx hb d_MM_node_34 rfl (lv_at hl 0 rfl) ?_
  refine o_get (v := .int (NP_nodes Np)) C in_MM hP 0 mw_0 rfl 23 (by decide) k_8_13 rfl rfl d_MM_node_35 ?_
  refine lv_iconst (v := (0:Int32)) hx hb d_MM_node_38 (by decide) ?_
  obtain ⟨g4, h⟩ := o_gd_some h
  refine o_iast (f := (NP_nodeC Np)) (w1 := (m_cw ad ca ky ty rt Ni (NP_mk (upd (NP_nodeKind Np) (NP_nodes Np).toNatClampNeg x1) (upd (NP_nodeA Np) (NP_nodes Np).toNatClampNeg x2) (upd (NP_nodeB Np) (NP_nodes Np).toNatClampNeg (0:Int32)) (upd (NP_nodeC Np) (NP_nodes Np).toNatClampNeg (0:Int32)) (NP_nodeNext Np) (NP_low Np) (NP_high Np) (NP_setFrom Np) (NP_setTo Np) (NP_setNot Np) (NP_nodes Np) (NP_sets Np) (NP_ranges Np) (NP_pat Np) (NP_patEnd Np) (NP_broken Np)) No Nx Nf Na Nh Nq Nj M0 M1)) C hP (hDD _ _ _ _ _ _ _ _ _ _ _ _) hS 5 4 mw_5 rfl g4 rfl d_MM_node_39 (fun H locs hP hS => ?_)
  refine lv_aload_n hx hb d_MM_node_40 rfl (lv_at hl 0 rfl) ?_
  refine o_get (v := .ref (ad 6)) C in_MM hP 0 mw_0 rfl 10 (by decide) k_8_0 rfl rfl d_MM_node_41 ?_
  refine lv_aload_n hx hb d_MM_node_44 rfl (lv_at hl 0 rfl) ?_
  refine o_get (v := .int (NP_nodes Np)) C in_MM hP 0 mw_0 rfl 23 (by decide) k_8_13 rfl rfl d_MM_node_45 ?_
  refine lv_iconst (v := (-1:Int32)) hx hb d_MM_node_48 (by decide) ?_
  obtain ⟨g5, h⟩ := o_gd_some h
  refine o_iast (f := (NP_nodeNext Np)) (w1 := (m_cw ad ca ky ty rt Ni (NP_mk (upd (NP_nodeKind Np) (NP_nodes Np).toNatClampNeg x1) (upd (NP_nodeA Np) (NP_nodes Np).toNatClampNeg x2) (upd (NP_nodeB Np) (NP_nodes Np).toNatClampNeg (0:Int32)) (upd (NP_nodeC Np) (NP_nodes Np).toNatClampNeg (0:Int32)) (upd (NP_nodeNext Np) (NP_nodes Np).toNatClampNeg (-1:Int32)) (NP_low Np) (NP_high Np) (NP_setFrom Np) (NP_setTo Np) (NP_setNot Np) (NP_nodes Np) (NP_sets Np) (NP_ranges Np) (NP_pat Np) (NP_patEnd Np) (NP_broken Np)) No Nx Nf Na Nh Nq Nj M0 M1)) C hP (hDD _ _ _ _ _ _ _ _ _ _ _ _) hS 6 5 mw_6 rfl g5 rfl d_MM_node_49 (fun H locs hP hS => ?_)
  refine lv_aload_n hx hb d_MM_node_50 rfl (lv_at hl 0 rfl) ?_
  refine lv_dup hx hb d_MM_node_51 rfl ?_
  refine o_get (v := .int (NP_nodes Np)) C in_MM hP 0 mw_0 rfl 23 (by decide) k_8_13 rfl rfl d_MM_node_52 ?_
  refine lv_dup_x1 hx hb d_MM_node_55 rfl rfl ?_
  refine lv_iconst (v := (1:Int32)) hx hb d_MM_node_56 (by decide) ?_
  refine lv_iadd hx hb d_MM_node_57 ?_
  refine o_put (v := .int ((NP_nodes Np) + (1:Int32))) (ty := .int) (w1 := (m_cw ad ca ky ty rt Ni (NP_mk (upd (NP_nodeKind Np) (NP_nodes Np).toNatClampNeg x1) (upd (NP_nodeA Np) (NP_nodes Np).toNatClampNeg x2) (upd (NP_nodeB Np) (NP_nodes Np).toNatClampNeg (0:Int32)) (upd (NP_nodeC Np) (NP_nodes Np).toNatClampNeg (0:Int32)) (upd (NP_nodeNext Np) (NP_nodes Np).toNatClampNeg (-1:Int32)) (NP_low Np) (NP_high Np) (NP_setFrom Np) (NP_setTo Np) (NP_setNot Np) ((NP_nodes Np) + (1:Int32)) (NP_sets Np) (NP_ranges Np) (NP_pat Np) (NP_patEnd Np) (NP_broken Np)) No Nx Nf Na Nh Nq Nj M0 M1)) C in_MM t_MM t_MM_ok n_MM hP (hDD _ _ _ _ _ _ _ _ _ _ _ _) hS 0 mw_0 rfl 23 (by decide) k_8_13 rfl rfl (by decide +kernel) rfl rfl (Nat.le_of_ble_eq_true rfl) rfl d_MM_node_58 (fun H locs hP hS => ?_)
  cases h
  exact o_ri (v := (NP_nodes Np)) C hP hS d_MM_node_61
set_option maxHeartbeats 4000000 in
set_option maxRecDepth 100000 in
theorem e_MM_no {E : (Nat → Prop) → State → Heap → Prop} {D : va_G} {ad kd sd vd xd : Nat → Nat} {ca : Nat → ClassId} {ky ty : Nat → Option Nat} (hE : o_EK E kd sd vd xd) (hKy : m_KY ky ty sd) (l : Launch)  (Np : SNP) (Ni : SNI) (No : SNO) (Nx : SNX) (Nf : SNF) (Na : SNA) (Nh : SNH) (Nq : SNQ) (Nj : SNJ) (M0 : SMT) (M1 : SMT) (rt : Nat) {r : Int32 × SNP} (h : m_MM_no Np = some r) : o_Cn E l D m_cls (m_tys ca) y_MM_no cc_MM_no rm_MM_no [.ref (ad 0)] (m_cw ad ca ky ty rt Ni Np No Nx Nf Na Nh Nq Nj M0 M1) (m_cw ad ca ky ty rt Ni r.2 No Nx Nf Na Nh Nq Nj M0 M1) (some (.int r.1)) := by
  refine o_Cn_of (by decide) (Nat.le_of_ble_eq_true rfl) ?_
  intro p e s m below meth c A ls C hD hP hS hl
  have hDD : ∀ (rt : Nat) (Ni : SNI) (Np : SNP) (No : SNO) (Nx : SNX) (Nf : SNF) (Na : SNA) (Nh : SNH) (Nq : SNQ) (Nj : SNJ) (M0 : SMT) (M1 : SMT), va_D A (m_cw ad ca ky ty rt Ni Np No Nx Nf Na Nh Nq Nj M0 M1) := fun _ _ _ _ _ _ _ _ _ _ _ _ => o_D_map hD rfl
  have hl : lv_has ls 1 [(0, .ref (ad 0))] := hl
  unfold m_MM_no at h
  have C0 := C
  obtain ⟨hx, hb, -, -, -, hown, hts, hK, -, -⟩ := C0
  refine lv_aload_n hx hb d_MM_no_0 rfl (lv_at hl 0 rfl) ?_
  refine lv_iconst (v := (1:Int32)) hx hb d_MM_no_1 (by decide) ?_
  refine o_put (v := .int (1:Int32)) (ty := .boolean) (w1 := (m_cw ad ca ky ty rt Ni (NP_mk (NP_nodeKind Np) (NP_nodeA Np) (NP_nodeB Np) (NP_nodeC Np) (NP_nodeNext Np) (NP_low Np) (NP_high Np) (NP_setFrom Np) (NP_setTo Np) (NP_setNot Np) (NP_nodes Np) (NP_sets Np) (NP_ranges Np) (NP_pat Np) (NP_patEnd Np) (1:Int32)) No Nx Nf Na Nh Nq Nj M0 M1)) C in_MM t_MM t_MM_ok n_MM hP (hDD _ _ _ _ _ _ _ _ _ _ _ _) hS 0 mw_0 rfl 32 (by decide) k_8_22 rfl rfl (by decide +kernel) rfl rfl (Nat.le_of_ble_eq_true rfl) rfl d_MM_no_2 (fun H locs hP hS => ?_)
  refine lv_aload_n hx hb d_MM_no_5 rfl (lv_at hl 0 rfl) ?_
  refine lv_iconst (v := (0:Int32)) hx hb d_MM_no_6 (by decide) ?_
  refine lv_iconst (v := (0:Int32)) hx hb d_MM_no_7 (by decide) ?_
  obtain ⟨q1, hq1, h⟩ := o_bd_some h
  refine o_V (st1 := [.int q1.1]) (w1 := (m_cw ad ca ky ty rt Ni q1.2 No Nx Nf Na Nh Nq Nj M0 M1)) hE.1 C (e_MM_node hE hKy l (0:Int32) (0:Int32) (NP_mk (NP_nodeKind Np) (NP_nodeA Np) (NP_nodeB Np) (NP_nodeC Np) (NP_nodeNext Np) (NP_low Np) (NP_high Np) (NP_setFrom Np) (NP_setTo Np) (NP_setNot Np) (NP_nodes Np) (NP_sets Np) (NP_ranges Np) (NP_pat Np) (NP_patEnd Np) (1:Int32)) Ni No Nx Nf Na Nh Nq Nj M0 M1 rt hq1) hP (hDD _ _ _ _ _ _ _ _ _ _ _ _) hS hl.1 rfl mw_0 k_9_62 k_9_64 k_s_87 k_1_12 k_9_65 hv_MM_node rfl rfl ⟨(Nat.le_of_ble_eq_true rfl), (Nat.le_of_ble_eq_true rfl)⟩ rfl (Nat.le_of_ble_eq_true rfl) ⟨Nat.zero_le _, Nat.zero_le _⟩ rfl d_MM_no_8 (fun H locs hP hS => ?_)
  cases h
  exact o_ri C hP hS d_MM_no_11
set_option maxHeartbeats 4000000 in
set_option maxRecDepth 100000 in
theorem e_MM_begin {E : (Nat → Prop) → State → Heap → Prop} {D : va_G} {ad kd sd vd xd : Nat → Nat} {ca : Nat → ClassId} {ky ty : Nat → Option Nat} (hE : o_EK E kd sd vd xd) (hKy : m_KY ky ty sd) (l : Launch)  (Np : SNP) (Ni : SNI) (No : SNO) (Nx : SNX) (Nf : SNF) (Na : SNA) (Nh : SNH) (Nq : SNQ) (Nj : SNJ) (M0 : SMT) (M1 : SMT) (rt : Nat) {r : Int32} (h : m_MM_begin Np = some r) : o_Cn E l D m_cls (m_tys ca) y_MM_begin cc_MM_begin rm_MM_begin [.ref (ad 0)] (m_cw ad ca ky ty rt Ni Np No Nx Nf Na Nh Nq Nj M0 M1) (m_cw ad ca ky ty rt Ni Np No Nx Nf Na Nh Nq Nj M0 M1) (some (.int r)) := by
  refine o_Cn_of (by decide) (Nat.le_of_ble_eq_true rfl) ?_
  intro p e s m below meth c A ls C hD hP hS hl
  have hDD : ∀ (rt : Nat) (Ni : SNI) (Np : SNP) (No : SNO) (Nx : SNX) (Nf : SNF) (Na : SNA) (Nh : SNH) (Nq : SNQ) (Nj : SNJ) (M0 : SMT) (M1 : SMT), va_D A (m_cw ad ca ky ty rt Ni Np No Nx Nf Na Nh Nq Nj M0 M1) := fun _ _ _ _ _ _ _ _ _ _ _ _ => o_D_map hD rfl
  have hl : lv_has ls 1 [(0, .ref (ad 0))] := hl
  unfold m_MM_begin at h
  have C0 := C
  obtain ⟨hx, hb, -, -, -, hown, hts, hK, -, -⟩ := C0
  refine lv_aload_n hx hb d_MM_begin_0 rfl (lv_at hl 0 rfl) ?_
  refine o_get (v := .int (NP_ranges Np)) C in_MM hP 0 mw_0 rfl 25 (by decide) k_8_15 rfl rfl d_MM_begin_1 ?_
  cases h
  exact o_ri (v := (NP_ranges Np)) C hP hS d_MM_begin_4
set_option maxHeartbeats 4000000 in
set_option maxRecDepth 100000 in
theorem e_MM_range {E : (Nat → Prop) → State → Heap → Prop} {D : va_G} {ad kd sd vd xd : Nat → Nat} {ca : Nat → ClassId} {ky ty : Nat → Option Nat} (hE : o_EK E kd sd vd xd) (hKy : m_KY ky ty sd) (l : Launch) (x1 : Int32) (x2 : Int32) (Np : SNP) (Ni : SNI) (No : SNO) (Nx : SNX) (Nf : SNF) (Na : SNA) (Nh : SNH) (Nq : SNQ) (Nj : SNJ) (M0 : SMT) (M1 : SMT) (rt : Nat) {r : SNP} (h : m_MM_range x1 x2 Np = some r) : o_Cn E l D m_cls (m_tys ca) y_MM_range cc_MM_range rm_MM_range [.ref (ad 0), .int x1, .int x2] (m_cw ad ca ky ty rt Ni Np No Nx Nf Na Nh Nq Nj M0 M1) (m_cw ad ca ky ty rt Ni r No Nx Nf Na Nh Nq Nj M0 M1) none := by
  refine o_Cn_of (by decide) (Nat.le_of_ble_eq_true rfl) ?_
  intro p e s m below meth c A ls C hD hP hS hl
  have hDD : ∀ (rt : Nat) (Ni : SNI) (Np : SNP) (No : SNO) (Nx : SNX) (Nf : SNF) (Na : SNA) (Nh : SNH) (Nq : SNQ) (Nj : SNJ) (M0 : SMT) (M1 : SMT), va_D A (m_cw ad ca ky ty rt Ni Np No Nx Nf Na Nh Nq Nj M0 M1) := fun _ _ _ _ _ _ _ _ _ _ _ _ => o_D_map hD rfl
  have hl : lv_has ls 3 [(0, .ref (ad 0)), (1, .int x1), (2, .int x2)] := hl
  unfold m_MM_range at h
  have C0 := C
  obtain ⟨hx, hb, -, -, -, hown, hts, hK, -, -⟩ := C0
  refine lv_aload_n hx hb d_MM_range_0 rfl (lv_at hl 0 rfl) ?_
  refine o_get (v := .ref (ad 7)) C in_MM hP 0 mw_0 rfl 11 (by decide) k_8_1 rfl rfl d_MM_range_1 ?_
  refine lv_aload_n hx hb d_MM_range_4 rfl (lv_at hl 0 rfl) ?_
  refine o_get (v := .int (NP_ranges Np)) C in_MM hP 0 mw_0 rfl 25 (by decide) k_8_15 rfl rfl d_MM_range_5 ?_
  refine lv_iload_n hx hb d_MM_range_8 rfl (lv_at hl 1 rfl) ?_
  obtain ⟨g1, h⟩ := o_gd_some h
  refine o_iast (f := (NP_low Np)) (w1 := (m_cw ad ca ky ty rt Ni (NP_mk (NP_nodeKind Np) (NP_nodeA Np) (NP_nodeB Np) (NP_nodeC Np) (NP_nodeNext Np) (upd (NP_low Np) (NP_ranges Np).toNatClampNeg x1) (NP_high Np) (NP_setFrom Np) (NP_setTo Np) (NP_setNot Np) (NP_nodes Np) (NP_sets Np) (NP_ranges Np) (NP_pat Np) (NP_patEnd Np) (NP_broken Np)) No Nx Nf Na Nh Nq Nj M0 M1)) C hP (hDD _ _ _ _ _ _ _ _ _ _ _ _) hS 7 6 mw_7 rfl g1 rfl d_MM_range_9 (fun H locs hP hS => ?_)
  refine lv_aload_n hx hb d_MM_range_10 rfl (lv_at hl 0 rfl) ?_
  refine o_get (v := .ref (ad 8)) C in_MM hP 0 mw_0 rfl 12 (by decide) k_8_2 rfl rfl d_MM_range_11 ?_
  refine lv_aload_n hx hb d_MM_range_14 rfl (lv_at hl 0 rfl) ?_
  refine lv_dup hx hb d_MM_range_15 rfl ?_
  refine o_get (v := .int (NP_ranges Np)) C in_MM hP 0 mw_0 rfl 25 (by decide) k_8_15 rfl rfl d_MM_range_16 ?_
  refine lv_dup_x1 hx hb d_MM_range_19 rfl rfl ?_
  refine lv_iconst (v := (1:Int32)) hx hb d_MM_range_20 (by decide) ?_
  refine lv_iadd hx hb d_MM_range_21 ?_
  refine o_put (v := .int ((NP_ranges Np) + (1:Int32))) (ty := .int) (w1 := (m_cw ad ca ky ty rt Ni (NP_mk (NP_nodeKind Np) (NP_nodeA Np) (NP_nodeB Np) (NP_nodeC Np) (NP_nodeNext Np) (upd (NP_low Np) (NP_ranges Np).toNatClampNeg x1) (NP_high Np) (NP_setFrom Np) (NP_setTo Np) (NP_setNot Np) (NP_nodes Np) (NP_sets Np) ((NP_ranges Np) + (1:Int32)) (NP_pat Np) (NP_patEnd Np) (NP_broken Np)) No Nx Nf Na Nh Nq Nj M0 M1)) C in_MM t_MM t_MM_ok n_MM hP (hDD _ _ _ _ _ _ _ _ _ _ _ _) hS 0 mw_0 rfl 25 (by decide) k_8_15 rfl rfl (by decide +kernel) rfl rfl (Nat.le_of_ble_eq_true rfl) rfl d_MM_range_22 (fun H locs hP hS => ?_)
  refine lv_iload_n hx hb d_MM_range_25 rfl (lv_at hl 2 rfl) ?_
  obtain ⟨g2, h⟩ := o_gd_some h
  refine o_iast (f := (NP_high Np)) (w1 := (m_cw ad ca ky ty rt Ni (NP_mk (NP_nodeKind Np) (NP_nodeA Np) (NP_nodeB Np) (NP_nodeC Np) (NP_nodeNext Np) (upd (NP_low Np) (NP_ranges Np).toNatClampNeg x1) (upd (NP_high Np) (NP_ranges Np).toNatClampNeg x2) (NP_setFrom Np) (NP_setTo Np) (NP_setNot Np) (NP_nodes Np) (NP_sets Np) ((NP_ranges Np) + (1:Int32)) (NP_pat Np) (NP_patEnd Np) (NP_broken Np)) No Nx Nf Na Nh Nq Nj M0 M1)) C hP (hDD _ _ _ _ _ _ _ _ _ _ _ _) hS 8 7 mw_8 rfl g2 rfl d_MM_range_26 (fun H locs hP hS => ?_)
  cases h
  exact o_rv C hP hS d_MM_range_27
set_option maxHeartbeats 4000000 in
set_option maxRecDepth 100000 in
theorem f_MM_set_b185 {E : (Nat → Prop) → State → Heap → Prop} {p : Program} {l : Launch} {e : Env} {s : State} {m : MethodId} {args : Array Value} {below : List Frame} {meth : Method} {c : Code} {D : va_G} {ad kd sd vd xd : Nat → Nat} {ca : Nat → ClassId} {A : Nat → Prop} {ky ty : Nat → Option Nat} {Q : State → Prop} (hE : o_EK E kd sd vd xd) (hKy : m_KY ky ty sd) (C : o_Cx E p s m args meth c D m_cls (m_tys ca) "SchemaJudgeModel" b_MM_set none 8 cc_MM_set A) (hDD : ∀ (rt : Nat) (Ni : SNI) (Np : SNP) (No : SNO) (Nx : SNX) (Nf : SNF) (Na : SNA) (Nh : SNH) (Nq : SNQ) (Nj : SNJ) (M0 : SMT) (M1 : SMT), va_D A (m_cw ad ca ky ty rt Ni Np No Nx Nf Na Nh Nq Nj M0 M1)) (n : Nat) (u185_x2 : Int32) (u185_x3 : Int32) (u185_Ni : SNI) (u185_No : SNO) (u185_Nx : SNX) (u185_Nf : SNF) (u185_Na : SNA) (u185_Nh : SNH) (u185_Nq : SNQ) (u185_Nj : SNJ) (u185_M0 : SMT) (u185_M1 : SMT) (u185_rt : Nat) (z : Int32 × Int32 × SNP) (q : Nat × Int32 × Int32 × SNP) (h : m_MM_set_b185 n u185_x2 u185_x3 z = some q) (h0 : q.1 = 0 → o_At p l e rm_MM_set s m args below meth c Q m_cls D A 8 185 [] (m_cw ad ca ky ty u185_rt u185_Ni q.2.2.2 u185_No u185_Nx u185_Nf u185_Na u185_Nh u185_Nq u185_Nj u185_M0 u185_M1) [(0, .ref (ad 0)), (2, .int u185_x2), (3, .int u185_x3), (4, .int q.2.1), (5, .int q.2.2.1)]) (h1 : q.1 ≠ 0 → (o_At p l e rm_MM_set s m args below meth c Q m_cls D A 8 249 [] (m_cw ad ca ky ty u185_rt u185_Ni q.2.2.2 u185_No u185_Nx u185_Nf u185_Na u185_Nh u185_Nq u185_Nj u185_M0 u185_M1) [(0, .ref (ad 0)), (4, .int q.2.1)])) : o_At p l e rm_MM_set s m args below meth c Q m_cls D A 8 185 [] (m_cw ad ca ky ty u185_rt u185_Ni z.2.2 u185_No u185_Nx u185_Nf u185_Na u185_Nh u185_Nq u185_Nj u185_M0 u185_M1) [(0, .ref (ad 0)), (2, .int u185_x2), (3, .int u185_x3), (4, .int z.1), (5, .int z.2.1)] := by
  unfold m_MM_set_b185 at h
  intro H locs ls hP hS hl
  have C0 := C
  obtain ⟨hx, hb, -, -, -, hown, hts, hK, -, -⟩ := C0
  refine lv_iload hx hb d_MM_set_185 (lv_at hl 4 rfl) ?_
  refine lv_iload_n hx hb d_MM_set_187 rfl (lv_at hl 2 rfl) ?_
  refine lv_icmp_ge (tgt := 249) hx hb d_MM_set_188 (by decide) (fun c4 => ?_) (fun c4 => ?_)
  · replace h := o_tt c4 h
    cases h
    exact h1 (Nat.succ_ne_zero 0) _ _ _ hP hS (lv_sub hl [0, 3] rfl)
  · replace h := o_ff c4 h
    refine lv_aload_n hx hb d_MM_set_191 rfl (lv_at hl 0 rfl) ?_
    refine o_get (v := .ref (ad 7)) C in_MM hP 0 mw_0 rfl 11 (by decide) k_8_1 rfl rfl d_MM_set_192 ?_
    refine lv_iload_n hx hb d_MM_set_195 rfl (lv_at hl 1 rfl) ?_
    refine lv_iload hx hb d_MM_set_196 (lv_at hl 4 rfl) ?_
    refine lv_iadd hx hb d_MM_set_198 ?_
    obtain ⟨g5, h⟩ := o_gd_some h
    refine o_iald (f := (NP_low z.2.2)) C hP 7 6 mw_7 rfl g5 d_MM_set_199 ?_
    refine lv_topi (fun x6_200 ex6_200 => ?_)
    replace h := o_nm_at ex6_200 h
    refine lv_istore (lv' := [(6, .int x6_200), (0, .ref (ad 0)), (2, .int u185_x2), (3, .int u185_x3), (4, .int z.1), (5, .int z.2.1)]) hx hb d_MM_set_200 hl (by decide) rfl (fun ls hl => ?_)
    refine lv_aload_n hx hb d_MM_set_202 rfl (lv_at hl 1 rfl) ?_
    refine o_get (v := .ref (ad 8)) C in_MM hP 0 mw_0 rfl 12 (by decide) k_8_2 rfl rfl d_MM_set_203 ?_
    refine lv_iload_n hx hb d_MM_set_206 rfl (lv_at hl 2 rfl) ?_
    refine lv_iload hx hb d_MM_set_207 (lv_at hl 5 rfl) ?_
    refine lv_iadd hx hb d_MM_set_209 ?_
    obtain ⟨g6, h⟩ := o_gd_some h
    refine o_iald (f := (NP_high z.2.2)) C hP 8 7 mw_8 rfl g6 d_MM_set_210 ?_
    refine lv_topi (fun x7_211 ex7_211 => ?_)
    replace h := o_nm_at ex7_211 h
    refine lv_istore (lv' := [(7, .int x7_211), (6, .int x6_200), (0, .ref (ad 0)), (2, .int u185_x2), (3, .int u185_x3), (4, .int z.1), (5, .int z.2.1)]) hx hb d_MM_set_211 hl (by decide) rfl (fun ls hl => ?_)
    refine lv_aload_n hx hb d_MM_set_213 rfl (lv_at hl 2 rfl) ?_
    refine o_get (v := .ref (ad 7)) C in_MM hP 0 mw_0 rfl 11 (by decide) k_8_1 rfl rfl d_MM_set_214 ?_
    refine lv_iload_n hx hb d_MM_set_217 rfl (lv_at hl 3 rfl) ?_
    refine lv_iload hx hb d_MM_set_218 (lv_at hl 6 rfl) ?_
    refine lv_iadd hx hb d_MM_set_220 ?_
    refine lv_iload hx hb d_MM_set_221 (lv_at hl 5 rfl) ?_
    obtain ⟨g7, h⟩ := o_gd_some h
    refine o_iast (f := (NP_low z.2.2)) (w1 := (m_cw ad ca ky ty u185_rt u185_Ni (NP_mk (NP_nodeKind z.2.2) (NP_nodeA z.2.2) (NP_nodeB z.2.2) (NP_nodeC z.2.2) (NP_nodeNext z.2.2) (upd (NP_low z.2.2) (u185_x2 + z.2.1).toNatClampNeg z.1) (NP_high z.2.2) (NP_setFrom z.2.2) (NP_setTo z.2.2) (NP_setNot z.2.2) (NP_nodes z.2.2) (NP_sets z.2.2) (NP_ranges z.2.2) (NP_pat z.2.2) (NP_patEnd z.2.2) (NP_broken z.2.2)) u185_No u185_Nx u185_Nf u185_Na u185_Nh u185_Nq u185_Nj u185_M0 u185_M1)) C hP (hDD _ _ _ _ _ _ _ _ _ _ _ _) hS 7 6 mw_7 rfl g7 rfl d_MM_set_223 (fun H locs hP hS => ?_)
    refine lv_aload_n hx hb d_MM_set_224 rfl (lv_at hl 2 rfl) ?_
    refine o_get (v := .ref (ad 8)) C in_MM hP 0 mw_0 rfl 12 (by decide) k_8_2 rfl rfl d_MM_set_225 ?_
    refine lv_iload_n hx hb d_MM_set_228 rfl (lv_at hl 3 rfl) ?_
    refine lv_iload hx hb d_MM_set_229 (lv_at hl 6 rfl) ?_
    refine lv_iadd hx hb d_MM_set_231 ?_
    refine lv_iload hx hb d_MM_set_232 (lv_at hl 1 rfl) ?_
    refine lv_iconst (v := (1:Int32)) hx hb d_MM_set_234 (by decide) ?_
    refine lv_isub hx hb d_MM_set_235 ?_
    obtain ⟨g8, h⟩ := o_gd_some h
    refine o_iast (f := (NP_high z.2.2)) (w1 := (m_cw ad ca ky ty u185_rt u185_Ni (NP_mk (NP_nodeKind z.2.2) (NP_nodeA z.2.2) (NP_nodeB z.2.2) (NP_nodeC z.2.2) (NP_nodeNext z.2.2) (upd (NP_low z.2.2) (u185_x2 + z.2.1).toNatClampNeg z.1) (upd (NP_high z.2.2) (u185_x2 + z.2.1).toNatClampNeg (x6_200 - (1:Int32))) (NP_setFrom z.2.2) (NP_setTo z.2.2) (NP_setNot z.2.2) (NP_nodes z.2.2) (NP_sets z.2.2) (NP_ranges z.2.2) (NP_pat z.2.2) (NP_patEnd z.2.2) (NP_broken z.2.2)) u185_No u185_Nx u185_Nf u185_Na u185_Nh u185_Nq u185_Nj u185_M0 u185_M1)) C hP (hDD _ _ _ _ _ _ _ _ _ _ _ _) hS 8 7 mw_8 rfl g8 rfl d_MM_set_236 (fun H locs hP hS => ?_)
    refine lv_iload hx hb d_MM_set_237 (lv_at hl 0 rfl) ?_
    refine lv_iconst (v := (1:Int32)) hx hb d_MM_set_239 (by decide) ?_
    refine lv_iadd hx hb d_MM_set_240 ?_
    refine lv_topi (fun x4_241 ex4_241 => ?_)
    replace h := o_nm_at ex4_241 h
    refine lv_istore (lv' := [(4, .int x4_241), (7, .int x7_211), (6, .int x6_200), (0, .ref (ad 0)), (2, .int u185_x2), (3, .int u185_x3), (5, .int z.2.1)]) hx hb d_MM_set_241 hl (by decide) rfl (fun ls hl => ?_)
    obtain ⟨x5_243, ex5_243⟩ : ∃ y : Int32, y = z.2.1 + (1:Int32) := ⟨_, rfl⟩
    replace h := o_nm_at ex5_243 h
    refine lv_iinc (v := x5_243) (lv' := [(5, .int x5_243), (4, .int x4_241), (7, .int x7_211), (6, .int x6_200), (0, .ref (ad 0)), (2, .int u185_x2), (3, .int u185_x3)]) hx hb d_MM_set_243 hl (k := 6) rfl (by rw [ex5_243]; rfl) (by decide) rfl (fun ls hl => ?_)
    refine lv_goto (tgt := 185) hx hb d_MM_set_246 (by decide) ?_
    cases h
    exact h0 rfl _ _ _ hP hS (lv_sub hl [4, 5, 6, 1, 0] rfl)
set_option maxHeartbeats 4000000 in
set_option maxRecDepth 100000 in
theorem f_MM_set_j165 {E : (Nat → Prop) → State → Heap → Prop} {p : Program} {l : Launch} {e : Env} {s : State} {m : MethodId} {args : Array Value} {below : List Frame} {meth : Method} {c : Code} {D : va_G} {ad kd sd vd xd : Nat → Nat} {ca : Nat → ClassId} {A : Nat → Prop} {ky ty : Nat → Option Nat} (hE : o_EK E kd sd vd xd) (hKy : m_KY ky ty sd) (C : o_Cx E p s m args meth c D m_cls (m_tys ca) "SchemaJudgeModel" b_MM_set none 8 cc_MM_set A) (hDD : ∀ (rt : Nat) (Ni : SNI) (Np : SNP) (No : SNO) (Nx : SNX) (Nf : SNF) (Na : SNA) (Nh : SNH) (Nq : SNQ) (Nj : SNJ) (M0 : SMT) (M1 : SMT), va_D A (m_cw ad ca ky ty rt Ni Np No Nx Nf Na Nh Nq Nj M0 M1)) (n : Nat) (x1 : Int32) (x2 : Int32) (Np : SNP) (Ni : SNI) (No : SNO) (Nx : SNX) (Nf : SNF) (Na : SNA) (Nh : SNH) (Nq : SNQ) (Nj : SNJ) (M0 : SMT) (M1 : SMT) (rt : Nat) {r : SNP} (h : m_MM_set_j165 n x1 x2 Np = some r) : o_At p l e rm_MM_set s m args below meth c (MQ below (o_Qx D m_cls none (m_cw ad ca ky ty rt Ni r No Nx Nf Na Nh Nq Nj M0 M1) A) args s 0 0 A) m_cls D A 8 165 [] (m_cw ad ca ky ty rt Ni Np No Nx Nf Na Nh Nq Nj M0 M1) [(0, .ref (ad 0)), (1, .int x1), (2, .int x2)] := by
  unfold m_MM_set_j165 at h
  intro H locs ls hP hS hl
  have C0 := C
  obtain ⟨hx, hb, -, -, -, hown, hts, hK, -, -⟩ := C0
  refine lv_iload_n hx hb d_MM_set_165 rfl (lv_at hl 1 rfl) ?_
  refine lv_bipush (v := (97:Int32)) hx hb d_MM_set_166 (by decide) ?_
  refine lv_icmp_lt (tgt := 172) hx hb d_MM_set_168 (by decide) (fun c3 => ?_) (fun c3 => ?_)
  · replace h := o_tt c3 h
    refine lv_aload_n hx hb d_MM_set_172 rfl (lv_at hl 0 rfl) ?_
    refine o_get (v := .int (NP_ranges Np)) C in_MM hP 0 mw_0 rfl 25 (by decide) k_8_15 rfl rfl d_MM_set_173 ?_
    refine lv_iload_n hx hb d_MM_set_176 rfl (lv_at hl 2 rfl) ?_
    refine lv_isub hx hb d_MM_set_177 ?_
    refine lv_topi (fun x3_178 ex3_178 => ?_)
    replace h := o_nm_at ex3_178 h
    refine lv_istore_n (lv' := [(3, .int x3_178), (0, .ref (ad 0)), (1, .int x1), (2, .int x2)]) hx hb d_MM_set_178 rfl hl (by decide) rfl (fun ls hl => ?_)
    refine lv_iconst (v := (0:Int32)) hx hb d_MM_set_179 (by decide) ?_
    refine lv_istore (lv' := [(4, .int (0:Int32)), (3, .int x3_178), (0, .ref (ad 0)), (1, .int x1), (2, .int x2)]) hx hb d_MM_set_180 hl (by decide) rfl (fun ls hl => ?_)
    refine lv_iconst (v := (0:Int32)) hx hb d_MM_set_182 (by decide) ?_
    refine lv_istore (lv' := [(5, .int (0:Int32)), (4, .int (0:Int32)), (3, .int x3_178), (0, .ref (ad 0)), (1, .int x1), (2, .int x2)]) hx hb d_MM_set_183 hl (by decide) rfl (fun ls hl => ?_)
    obtain ⟨q11, hq11, h⟩ := o_bd_some h
    refine o_sim2 (AH := fun zz => o_At p l e rm_MM_set s m args below meth c _ m_cls D A 8 185 [] (m_cw ad ca ky ty rt Ni zz.2.2 No Nx Nf Na Nh Nq Nj M0 M1) [(0, .ref (ad 0)), (2, .int x2), (3, .int x3_178), (4, .int zz.1), (5, .int zz.2.1)]) (AX := fun qq => o_At p l e rm_MM_set s m args below meth c _ m_cls D A 8 249 [] (m_cw ad ca ky ty rt Ni qq.2.2.2 No Nx Nf Na Nh Nq Nj M0 M1) [(0, .ref (ad 0)), (4, .int qq.2.1)]) (fun zz qq h h0 h1 => f_MM_set_b185 hE hKy C hDD n x2 x3_178 Ni No Nx Nf Na Nh Nq Nj M0 M1 rt zz qq h h0 h1) n _ q11 hq11 ?_ _ _ _ hP hS (lv_sub hl [3, 5, 2, 1, 0] rfl)
    intro H locs ls hP hS hl
    refine lv_aload_n hx hb d_MM_set_249 rfl (lv_at hl 0 rfl) ?_
    refine lv_iload hx hb d_MM_set_250 (lv_at hl 1 rfl) ?_
    refine lv_ldcw (v := (1114111:Int32)) hx hb hown (hts _ k_9_107) d_MM_set_252 ?_
    obtain ⟨q12, hq12, h⟩ := o_bd_some h
    refine o_V (st1 := []) (w1 := (m_cw ad ca ky ty rt Ni q12 No Nx Nf Na Nh Nq Nj M0 M1)) hE.1 C (e_MM_range hE hKy l q11.2.1 (1114111:Int32) q11.2.2.2 Ni No Nx Nf Na Nh Nq Nj M0 M1 rt hq12) hP (hDD _ _ _ _ _ _ _ _ _ _ _ _) hS hl.1 rfl mw_0 k_9_102 k_9_104 k_s_97 k_1_12 k_9_105 hv_MM_range rfl rfl ⟨(Nat.le_of_ble_eq_true rfl), (Nat.le_of_ble_eq_true rfl)⟩ rfl (Nat.le_of_ble_eq_true rfl) ⟨Nat.zero_le _, Nat.zero_le _⟩ rfl d_MM_set_255 (fun H locs hP hS => ?_)
    cases h
    exact o_rv C hP hS d_MM_set_258
  · replace h := o_ff c3 h
    cases h
    exact o_rv C hP hS d_MM_set_171
set_option maxHeartbeats 4000000 in
set_option maxRecDepth 100000 in
theorem e_MM_set {E : (Nat → Prop) → State → Heap → Prop} {D : va_G} {ad kd sd vd xd : Nat → Nat} {ca : Nat → ClassId} {ky ty : Nat → Option Nat} (hE : o_EK E kd sd vd xd) (hKy : m_KY ky ty sd) (l : Launch) (n : Nat) (x1 : Int32) (Np : SNP) (Ni : SNI) (No : SNO) (Nx : SNX) (Nf : SNF) (Na : SNA) (Nh : SNH) (Nq : SNQ) (Nj : SNJ) (M0 : SMT) (M1 : SMT) (rt : Nat) {r : SNP} (h : m_MM_set n x1 Np = some r) : o_Cn E l D m_cls (m_tys ca) y_MM_set cc_MM_set rm_MM_set [.ref (ad 0), .int x1] (m_cw ad ca ky ty rt Ni Np No Nx Nf Na Nh Nq Nj M0 M1) (m_cw ad ca ky ty rt Ni r No Nx Nf Na Nh Nq Nj M0 M1) none := by
  refine o_Cn_of (by decide) (Nat.le_of_ble_eq_true rfl) ?_
  intro p e s m below meth c A ls C hD hP hS hl
  have hDD : ∀ (rt : Nat) (Ni : SNI) (Np : SNP) (No : SNO) (Nx : SNX) (Nf : SNF) (Na : SNA) (Nh : SNH) (Nq : SNQ) (Nj : SNJ) (M0 : SMT) (M1 : SMT), va_D A (m_cw ad ca ky ty rt Ni Np No Nx Nf Na Nh Nq Nj M0 M1) := fun _ _ _ _ _ _ _ _ _ _ _ _ => o_D_map hD rfl
  have hl : lv_has ls 8 [(0, .ref (ad 0)), (1, .int x1)] := hl
  unfold m_MM_set at h
  have C0 := C
  obtain ⟨hx, hb, -, -, -, hown, hts, hK, -, -⟩ := C0
  refine lv_aload_n hx hb d_MM_set_0 rfl (lv_at hl 0 rfl) ?_
  refine o_get (v := .int (NP_ranges Np)) C in_MM hP 0 mw_0 rfl 25 (by decide) k_8_15 rfl rfl d_MM_set_1 ?_
  refine lv_topi (fun x2_4 ex2_4 => ?_)
  replace h := o_nm_at ex2_4 h
  refine lv_istore_n (lv' := [(2, .int x2_4), (0, .ref (ad 0)), (1, .int x1)]) hx hb d_MM_set_4 rfl hl (by decide) rfl (fun ls hl => ?_)
  refine lv_iload_n hx hb d_MM_set_5 rfl (lv_at hl 2 rfl) ?_
  refine lv_bipush (v := (32:Int32)) hx hb d_MM_set_6 (by decide) ?_
  refine lv_ior hx hb d_MM_set_8 ?_
  refine lv_bipush (v := (100:Int32)) hx hb d_MM_set_9 (by decide) ?_
  refine lv_icmp_ne (tgt := 25) hx hb d_MM_set_11 (by decide) (fun c1 => ?_) (fun c1 => ?_)
  · replace h := o_ff c1 h
    refine lv_iload_n hx hb d_MM_set_25 rfl (lv_at hl 2 rfl) ?_
    refine lv_bipush (v := (32:Int32)) hx hb d_MM_set_26 (by decide) ?_
    refine lv_ior hx hb d_MM_set_28 ?_
    refine lv_bipush (v := (119:Int32)) hx hb d_MM_set_29 (by decide) ?_
    refine lv_icmp_ne (tgt := 69) hx hb d_MM_set_31 (by decide) (fun c2 => ?_) (fun c2 => ?_)
    · replace h := o_ff c2 h
      refine lv_aload_n hx hb d_MM_set_69 rfl (lv_at hl 1 rfl) ?_
      refine lv_bipush (v := (9:Int32)) hx hb d_MM_set_70 (by decide) ?_
      refine lv_bipush (v := (13:Int32)) hx hb d_MM_set_72 (by decide) ?_
      obtain ⟨q1, hq1, h⟩ := o_bd_some h
      refine o_V (st1 := []) (w1 := (m_cw ad ca ky ty rt Ni q1 No Nx Nf Na Nh Nq Nj M0 M1)) hE.1 C (e_MM_range hE hKy l (9:Int32) (13:Int32) Np Ni No Nx Nf Na Nh Nq Nj M0 M1 rt hq1) hP (hDD _ _ _ _ _ _ _ _ _ _ _ _) hS hl.1 rfl mw_0 k_9_102 k_9_104 k_s_97 k_1_12 k_9_105 hv_MM_range rfl rfl ⟨(Nat.le_of_ble_eq_true rfl), (Nat.le_of_ble_eq_true rfl)⟩ rfl (Nat.le_of_ble_eq_true rfl) ⟨Nat.zero_le _, Nat.zero_le _⟩ rfl d_MM_set_74 (fun H locs hP hS => ?_)
      refine lv_aload_n hx hb d_MM_set_77 rfl (lv_at hl 1 rfl) ?_
      refine lv_bipush (v := (32:Int32)) hx hb d_MM_set_78 (by decide) ?_
      refine lv_bipush (v := (32:Int32)) hx hb d_MM_set_80 (by decide) ?_
      obtain ⟨q2, hq2, h⟩ := o_bd_some h
      refine o_V (st1 := []) (w1 := (m_cw ad ca ky ty rt Ni q2 No Nx Nf Na Nh Nq Nj M0 M1)) hE.1 C (e_MM_range hE hKy l (32:Int32) (32:Int32) q1 Ni No Nx Nf Na Nh Nq Nj M0 M1 rt hq2) hP (hDD _ _ _ _ _ _ _ _ _ _ _ _) hS hl.1 rfl mw_0 k_9_102 k_9_104 k_s_97 k_1_12 k_9_105 hv_MM_range rfl rfl ⟨(Nat.le_of_ble_eq_true rfl), (Nat.le_of_ble_eq_true rfl)⟩ rfl (Nat.le_of_ble_eq_true rfl) ⟨Nat.zero_le _, Nat.zero_le _⟩ rfl d_MM_set_82 (fun H locs hP hS => ?_)
      refine lv_aload_n hx hb d_MM_set_85 rfl (lv_at hl 1 rfl) ?_
      refine lv_sipush (v := (160:Int32)) hx hb d_MM_set_86 (by decide) ?_
      refine lv_sipush (v := (160:Int32)) hx hb d_MM_set_89 (by decide) ?_
      obtain ⟨q3, hq3, h⟩ := o_bd_some h
      refine o_V (st1 := []) (w1 := (m_cw ad ca ky ty rt Ni q3 No Nx Nf Na Nh Nq Nj M0 M1)) hE.1 C (e_MM_range hE hKy l (160:Int32) (160:Int32) q2 Ni No Nx Nf Na Nh Nq Nj M0 M1 rt hq3) hP (hDD _ _ _ _ _ _ _ _ _ _ _ _) hS hl.1 rfl mw_0 k_9_102 k_9_104 k_s_97 k_1_12 k_9_105 hv_MM_range rfl rfl ⟨(Nat.le_of_ble_eq_true rfl), (Nat.le_of_ble_eq_true rfl)⟩ rfl (Nat.le_of_ble_eq_true rfl) ⟨Nat.zero_le _, Nat.zero_le _⟩ rfl d_MM_set_92 (fun H locs hP hS => ?_)
      refine lv_aload_n hx hb d_MM_set_95 rfl (lv_at hl 1 rfl) ?_
      refine lv_sipush (v := (5760:Int32)) hx hb d_MM_set_96 (by decide) ?_
      refine lv_sipush (v := (5760:Int32)) hx hb d_MM_set_99 (by decide) ?_
      obtain ⟨q4, hq4, h⟩ := o_bd_some h
      refine o_V (st1 := []) (w1 := (m_cw ad ca ky ty rt Ni q4 No Nx Nf Na Nh Nq Nj M0 M1)) hE.1 C (e_MM_range hE hKy l (5760:Int32) (5760:Int32) q3 Ni No Nx Nf Na Nh Nq Nj M0 M1 rt hq4) hP (hDD _ _ _ _ _ _ _ _ _ _ _ _) hS hl.1 rfl mw_0 k_9_102 k_9_104 k_s_97 k_1_12 k_9_105 hv_MM_range rfl rfl ⟨(Nat.le_of_ble_eq_true rfl), (Nat.le_of_ble_eq_true rfl)⟩ rfl (Nat.le_of_ble_eq_true rfl) ⟨Nat.zero_le _, Nat.zero_le _⟩ rfl d_MM_set_102 (fun H locs hP hS => ?_)
      refine lv_aload_n hx hb d_MM_set_105 rfl (lv_at hl 1 rfl) ?_
      refine lv_sipush (v := (8192:Int32)) hx hb d_MM_set_106 (by decide) ?_
      refine lv_sipush (v := (8202:Int32)) hx hb d_MM_set_109 (by decide) ?_
      obtain ⟨q5, hq5, h⟩ := o_bd_some h
      refine o_V (st1 := []) (w1 := (m_cw ad ca ky ty rt Ni q5 No Nx Nf Na Nh Nq Nj M0 M1)) hE.1 C (e_MM_range hE hKy l (8192:Int32) (8202:Int32) q4 Ni No Nx Nf Na Nh Nq Nj M0 M1 rt hq5) hP (hDD _ _ _ _ _ _ _ _ _ _ _ _) hS hl.1 rfl mw_0 k_9_102 k_9_104 k_s_97 k_1_12 k_9_105 hv_MM_range rfl rfl ⟨(Nat.le_of_ble_eq_true rfl), (Nat.le_of_ble_eq_true rfl)⟩ rfl (Nat.le_of_ble_eq_true rfl) ⟨Nat.zero_le _, Nat.zero_le _⟩ rfl d_MM_set_112 (fun H locs hP hS => ?_)
      refine lv_aload_n hx hb d_MM_set_115 rfl (lv_at hl 1 rfl) ?_
      refine lv_sipush (v := (8232:Int32)) hx hb d_MM_set_116 (by decide) ?_
      refine lv_sipush (v := (8233:Int32)) hx hb d_MM_set_119 (by decide) ?_
      obtain ⟨q6, hq6, h⟩ := o_bd_some h
      refine o_V (st1 := []) (w1 := (m_cw ad ca ky ty rt Ni q6 No Nx Nf Na Nh Nq Nj M0 M1)) hE.1 C (e_MM_range hE hKy l (8232:Int32) (8233:Int32) q5 Ni No Nx Nf Na Nh Nq Nj M0 M1 rt hq6) hP (hDD _ _ _ _ _ _ _ _ _ _ _ _) hS hl.1 rfl mw_0 k_9_102 k_9_104 k_s_97 k_1_12 k_9_105 hv_MM_range rfl rfl ⟨(Nat.le_of_ble_eq_true rfl), (Nat.le_of_ble_eq_true rfl)⟩ rfl (Nat.le_of_ble_eq_true rfl) ⟨Nat.zero_le _, Nat.zero_le _⟩ rfl d_MM_set_122 (fun H locs hP hS => ?_)
      refine lv_aload_n hx hb d_MM_set_125 rfl (lv_at hl 1 rfl) ?_
      refine lv_sipush (v := (8239:Int32)) hx hb d_MM_set_126 (by decide) ?_
      refine lv_sipush (v := (8239:Int32)) hx hb d_MM_set_129 (by decide) ?_
      obtain ⟨q7, hq7, h⟩ := o_bd_some h
      refine o_V (st1 := []) (w1 := (m_cw ad ca ky ty rt Ni q7 No Nx Nf Na Nh Nq Nj M0 M1)) hE.1 C (e_MM_range hE hKy l (8239:Int32) (8239:Int32) q6 Ni No Nx Nf Na Nh Nq Nj M0 M1 rt hq7) hP (hDD _ _ _ _ _ _ _ _ _ _ _ _) hS hl.1 rfl mw_0 k_9_102 k_9_104 k_s_97 k_1_12 k_9_105 hv_MM_range rfl rfl ⟨(Nat.le_of_ble_eq_true rfl), (Nat.le_of_ble_eq_true rfl)⟩ rfl (Nat.le_of_ble_eq_true rfl) ⟨Nat.zero_le _, Nat.zero_le _⟩ rfl d_MM_set_132 (fun H locs hP hS => ?_)
      refine lv_aload_n hx hb d_MM_set_135 rfl (lv_at hl 1 rfl) ?_
      refine lv_sipush (v := (8287:Int32)) hx hb d_MM_set_136 (by decide) ?_
      refine lv_sipush (v := (8287:Int32)) hx hb d_MM_set_139 (by decide) ?_
      obtain ⟨q8, hq8, h⟩ := o_bd_some h
      refine o_V (st1 := []) (w1 := (m_cw ad ca ky ty rt Ni q8 No Nx Nf Na Nh Nq Nj M0 M1)) hE.1 C (e_MM_range hE hKy l (8287:Int32) (8287:Int32) q7 Ni No Nx Nf Na Nh Nq Nj M0 M1 rt hq8) hP (hDD _ _ _ _ _ _ _ _ _ _ _ _) hS hl.1 rfl mw_0 k_9_102 k_9_104 k_s_97 k_1_12 k_9_105 hv_MM_range rfl rfl ⟨(Nat.le_of_ble_eq_true rfl), (Nat.le_of_ble_eq_true rfl)⟩ rfl (Nat.le_of_ble_eq_true rfl) ⟨Nat.zero_le _, Nat.zero_le _⟩ rfl d_MM_set_142 (fun H locs hP hS => ?_)
      refine lv_aload_n hx hb d_MM_set_145 rfl (lv_at hl 1 rfl) ?_
      refine lv_sipush (v := (12288:Int32)) hx hb d_MM_set_146 (by decide) ?_
      refine lv_sipush (v := (12288:Int32)) hx hb d_MM_set_149 (by decide) ?_
      obtain ⟨q9, hq9, h⟩ := o_bd_some h
      refine o_V (st1 := []) (w1 := (m_cw ad ca ky ty rt Ni q9 No Nx Nf Na Nh Nq Nj M0 M1)) hE.1 C (e_MM_range hE hKy l (12288:Int32) (12288:Int32) q8 Ni No Nx Nf Na Nh Nq Nj M0 M1 rt hq9) hP (hDD _ _ _ _ _ _ _ _ _ _ _ _) hS hl.1 rfl mw_0 k_9_102 k_9_104 k_s_97 k_1_12 k_9_105 hv_MM_range rfl rfl ⟨(Nat.le_of_ble_eq_true rfl), (Nat.le_of_ble_eq_true rfl)⟩ rfl (Nat.le_of_ble_eq_true rfl) ⟨Nat.zero_le _, Nat.zero_le _⟩ rfl d_MM_set_152 (fun H locs hP hS => ?_)
      refine lv_aload_n hx hb d_MM_set_155 rfl (lv_at hl 1 rfl) ?_
      refine lv_ldcw (v := (65279:Int32)) hx hb hown (hts _ k_9_106) d_MM_set_156 ?_
      refine lv_ldcw (v := (65279:Int32)) hx hb hown (hts _ k_9_106) d_MM_set_159 ?_
      obtain ⟨q10, hq10, h⟩ := o_bd_some h
      refine o_V (st1 := []) (w1 := (m_cw ad ca ky ty rt Ni q10 No Nx Nf Na Nh Nq Nj M0 M1)) hE.1 C (e_MM_range hE hKy l (65279:Int32) (65279:Int32) q9 Ni No Nx Nf Na Nh Nq Nj M0 M1 rt hq10) hP (hDD _ _ _ _ _ _ _ _ _ _ _ _) hS hl.1 rfl mw_0 k_9_102 k_9_104 k_s_97 k_1_12 k_9_105 hv_MM_range rfl rfl ⟨(Nat.le_of_ble_eq_true rfl), (Nat.le_of_ble_eq_true rfl)⟩ rfl (Nat.le_of_ble_eq_true rfl) ⟨Nat.zero_le _, Nat.zero_le _⟩ rfl d_MM_set_162 (fun H locs hP hS => ?_)
      exact f_MM_set_j165 hE hKy C hDD n x1 x2_4 q10 Ni No Nx Nf Na Nh Nq Nj M0 M1 rt h _ _ _ hP hS (lv_sub hl [1, 2, 0] rfl)
    · replace h := o_tt c2 h
      refine lv_aload_n hx hb d_MM_set_34 rfl (lv_at hl 1 rfl) ?_
      refine lv_bipush (v := (48:Int32)) hx hb d_MM_set_35 (by decide) ?_
      refine lv_bipush (v := (57:Int32)) hx hb d_MM_set_37 (by decide) ?_
      obtain ⟨q13, hq13, h⟩ := o_bd_some h
      refine o_V (st1 := []) (w1 := (m_cw ad ca ky ty rt Ni q13 No Nx Nf Na Nh Nq Nj M0 M1)) hE.1 C (e_MM_range hE hKy l (48:Int32) (57:Int32) Np Ni No Nx Nf Na Nh Nq Nj M0 M1 rt hq13) hP (hDD _ _ _ _ _ _ _ _ _ _ _ _) hS hl.1 rfl mw_0 k_9_102 k_9_104 k_s_97 k_1_12 k_9_105 hv_MM_range rfl rfl ⟨(Nat.le_of_ble_eq_true rfl), (Nat.le_of_ble_eq_true rfl)⟩ rfl (Nat.le_of_ble_eq_true rfl) ⟨Nat.zero_le _, Nat.zero_le _⟩ rfl d_MM_set_39 (fun H locs hP hS => ?_)
      refine lv_aload_n hx hb d_MM_set_42 rfl (lv_at hl 1 rfl) ?_
      refine lv_bipush (v := (65:Int32)) hx hb d_MM_set_43 (by decide) ?_
      refine lv_bipush (v := (90:Int32)) hx hb d_MM_set_45 (by decide) ?_
      obtain ⟨q14, hq14, h⟩ := o_bd_some h
      refine o_V (st1 := []) (w1 := (m_cw ad ca ky ty rt Ni q14 No Nx Nf Na Nh Nq Nj M0 M1)) hE.1 C (e_MM_range hE hKy l (65:Int32) (90:Int32) q13 Ni No Nx Nf Na Nh Nq Nj M0 M1 rt hq14) hP (hDD _ _ _ _ _ _ _ _ _ _ _ _) hS hl.1 rfl mw_0 k_9_102 k_9_104 k_s_97 k_1_12 k_9_105 hv_MM_range rfl rfl ⟨(Nat.le_of_ble_eq_true rfl), (Nat.le_of_ble_eq_true rfl)⟩ rfl (Nat.le_of_ble_eq_true rfl) ⟨Nat.zero_le _, Nat.zero_le _⟩ rfl d_MM_set_47 (fun H locs hP hS => ?_)
      refine lv_aload_n hx hb d_MM_set_50 rfl (lv_at hl 1 rfl) ?_
      refine lv_bipush (v := (95:Int32)) hx hb d_MM_set_51 (by decide) ?_
      refine lv_bipush (v := (95:Int32)) hx hb d_MM_set_53 (by decide) ?_
      obtain ⟨q15, hq15, h⟩ := o_bd_some h
      refine o_V (st1 := []) (w1 := (m_cw ad ca ky ty rt Ni q15 No Nx Nf Na Nh Nq Nj M0 M1)) hE.1 C (e_MM_range hE hKy l (95:Int32) (95:Int32) q14 Ni No Nx Nf Na Nh Nq Nj M0 M1 rt hq15) hP (hDD _ _ _ _ _ _ _ _ _ _ _ _) hS hl.1 rfl mw_0 k_9_102 k_9_104 k_s_97 k_1_12 k_9_105 hv_MM_range rfl rfl ⟨(Nat.le_of_ble_eq_true rfl), (Nat.le_of_ble_eq_true rfl)⟩ rfl (Nat.le_of_ble_eq_true rfl) ⟨Nat.zero_le _, Nat.zero_le _⟩ rfl d_MM_set_55 (fun H locs hP hS => ?_)
      refine lv_aload_n hx hb d_MM_set_58 rfl (lv_at hl 1 rfl) ?_
      refine lv_bipush (v := (97:Int32)) hx hb d_MM_set_59 (by decide) ?_
      refine lv_bipush (v := (122:Int32)) hx hb d_MM_set_61 (by decide) ?_
      obtain ⟨q16, hq16, h⟩ := o_bd_some h
      refine o_V (st1 := []) (w1 := (m_cw ad ca ky ty rt Ni q16 No Nx Nf Na Nh Nq Nj M0 M1)) hE.1 C (e_MM_range hE hKy l (97:Int32) (122:Int32) q15 Ni No Nx Nf Na Nh Nq Nj M0 M1 rt hq16) hP (hDD _ _ _ _ _ _ _ _ _ _ _ _) hS hl.1 rfl mw_0 k_9_102 k_9_104 k_s_97 k_1_12 k_9_105 hv_MM_range rfl rfl ⟨(Nat.le_of_ble_eq_true rfl), (Nat.le_of_ble_eq_true rfl)⟩ rfl (Nat.le_of_ble_eq_true rfl) ⟨Nat.zero_le _, Nat.zero_le _⟩ rfl d_MM_set_63 (fun H locs hP hS => ?_)
      refine lv_goto (tgt := 165) hx hb d_MM_set_66 (by decide) ?_
      exact f_MM_set_j165 hE hKy C hDD n x1 x2_4 q16 Ni No Nx Nf Na Nh Nq Nj M0 M1 rt h _ _ _ hP hS (lv_sub hl [1, 2, 0] rfl)
  · replace h := o_tt c1 h
    refine lv_aload_n hx hb d_MM_set_14 rfl (lv_at hl 1 rfl) ?_
    refine lv_bipush (v := (48:Int32)) hx hb d_MM_set_15 (by decide) ?_
    refine lv_bipush (v := (57:Int32)) hx hb d_MM_set_17 (by decide) ?_
    obtain ⟨q17, hq17, h⟩ := o_bd_some h
    refine o_V (st1 := []) (w1 := (m_cw ad ca ky ty rt Ni q17 No Nx Nf Na Nh Nq Nj M0 M1)) hE.1 C (e_MM_range hE hKy l (48:Int32) (57:Int32) Np Ni No Nx Nf Na Nh Nq Nj M0 M1 rt hq17) hP (hDD _ _ _ _ _ _ _ _ _ _ _ _) hS hl.1 rfl mw_0 k_9_102 k_9_104 k_s_97 k_1_12 k_9_105 hv_MM_range rfl rfl ⟨(Nat.le_of_ble_eq_true rfl), (Nat.le_of_ble_eq_true rfl)⟩ rfl (Nat.le_of_ble_eq_true rfl) ⟨Nat.zero_le _, Nat.zero_le _⟩ rfl d_MM_set_19 (fun H locs hP hS => ?_)
    refine lv_goto (tgt := 165) hx hb d_MM_set_22 (by decide) ?_
    exact f_MM_set_j165 hE hKy C hDD n x1 x2_4 q17 Ni No Nx Nf Na Nh Nq Nj M0 M1 rt h _ _ _ hP hS (lv_sub hl [1, 2, 0] rfl)
set_option maxHeartbeats 4000000 in
set_option maxRecDepth 100000 in
theorem f_MM_hex_j29_a {E : (Nat → Prop) → State → Heap → Prop} {p : Program} {l : Launch} {e : Env} {s : State} {m : MethodId} {args : Array Value} {below : List Frame} {meth : Method} {c : Code} {D : va_G} {ad kd sd vd xd : Nat → Nat} {ca : Nat → ClassId} {A : Nat → Prop} {ky ty : Nat → Option Nat} {Q : State → Prop} (hE : o_EK E kd sd vd xd) (hKy : m_KY ky ty sd) (C : o_Cx E p s m args meth c D m_cls (m_tys ca) "SchemaJudgeModel" b_MM_hex (some .int) 5 cc_MM_hex A) (hDD : ∀ (rt : Nat) (Ni : SNI) (Np : SNP) (No : SNO) (Nx : SNX) (Nf : SNF) (Na : SNA) (Nh : SNH) (Nq : SNQ) (Nj : SNJ) (M0 : SMT) (M1 : SMT), va_D A (m_cw ad ca ky ty rt Ni Np No Nx Nf Na Nh Nq Nj M0 M1)) (n : Nat) (u4_x1 : Int32) (u4_tc : SMT) (u4_Ni : SNI) (u4_No : SNO) (u4_Nx : SNX) (u4_Nf : SNF) (u4_Na : SNA) (u4_Nh : SNH) (u4_Nq : SNQ) (u4_Nj : SNJ) (u4_M1 : SMT) (x2 : Int32) (x3 : Int32) (y0 : Int32) (Np : SNP) {q : Nat × Int32 × Int32 × SNP} (h : m_MM_hex_j29 n u4_x1 x2 x3 y0 u4_tc Np = some q) (h0 : q.1 = 0 → o_At p l e rm_MM_hex s m args below meth c Q m_cls D A 5 4 [] (m_cw ad ca ky ty 33 u4_Ni q.2.2.2 u4_No u4_Nx u4_Nf u4_Na u4_Nh u4_Nq u4_Nj u4_tc u4_M1) [(0, .ref (ad 0)), (1, .int u4_x1), (2, .int q.2.1), (3, .int q.2.2.1)]) (h1 : q.1 ≠ 0 → (if q.1 = 1 then o_At p l e rm_MM_hex s m args below meth c Q m_cls D A 5 36 [] (m_cw ad ca ky ty 33 u4_Ni q.2.2.2 u4_No u4_Nx u4_Nf u4_Na u4_Nh u4_Nq u4_Nj u4_tc u4_M1) [(0, .ref (ad 0))] else o_At p l e rm_MM_hex s m args below meth c Q m_cls D A 5 67 [] (m_cw ad ca ky ty 33 u4_Ni q.2.2.2 u4_No u4_Nx u4_Nf u4_Na u4_Nh u4_Nq u4_Nj u4_tc u4_M1) [(2, .int q.2.1)])) : o_At p l e rm_MM_hex s m args below meth c Q m_cls D A 5 29 [.int y0] (m_cw ad ca ky ty 33 u4_Ni Np u4_No u4_Nx u4_Nf u4_Na u4_Nh u4_Nq u4_Nj u4_tc u4_M1) [(0, .ref (ad 0)), (1, .int u4_x1), (2, .int x2), (3, .int x3)] := by
  unfold m_MM_hex_j29 at h
  intro H locs ls hP hS hl
  have C0 := C
  obtain ⟨hx, hb, -, -, -, hown, hts, hK, -, -⟩ := C0
  refine lv_istore (lv' := [(4, .int y0), (0, .ref (ad 0)), (1, .int u4_x1), (2, .int x2), (3, .int x3)]) hx hb d_MM_hex_29 hl (by decide) rfl (fun ls hl => ?_)
  refine lv_iload hx hb d_MM_hex_31 (lv_at hl 0 rfl) ?_
  refine lv_if_ge (tgt := 43) hx hb d_MM_hex_33 (by decide) (fun c3 => ?_) (fun c3 => ?_)
  · replace h := o_tt c3 h
    refine lv_bipush (v := (16:Int32)) hx hb d_MM_hex_43 (by decide) ?_
    refine lv_iload_n hx hb d_MM_hex_45 rfl (lv_at hl 3 rfl) ?_
    refine lv_imul hx hb d_MM_hex_46 ?_
    refine lv_iload hx hb d_MM_hex_47 (lv_at hl 0 rfl) ?_
    refine lv_iadd hx hb d_MM_hex_49 ?_
    refine lv_topi (fun x2_50 ex2_50 => ?_)
    replace h := o_nm_at ex2_50 h
    refine lv_istore_n (lv' := [(2, .int x2_50), (4, .int y0), (0, .ref (ad 0)), (1, .int u4_x1), (3, .int x3)]) hx hb d_MM_hex_50 rfl hl (by decide) rfl (fun ls hl => ?_)
    refine lv_aload_n hx hb d_MM_hex_51 rfl (lv_at hl 2 rfl) ?_
    refine lv_dup hx hb d_MM_hex_52 rfl ?_
    refine o_get (v := .int (NP_pat Np)) C in_MM hP 0 mw_0 rfl 27 (by decide) k_8_17 rfl rfl d_MM_hex_53 ?_
    refine lv_iconst (v := (1:Int32)) hx hb d_MM_hex_56 (by decide) ?_
    refine lv_iadd hx hb d_MM_hex_57 ?_
    refine o_put (v := .int ((NP_pat Np) + (1:Int32))) (ty := .int) (w1 := (m_cw ad ca ky ty 33 u4_Ni (NP_mk (NP_nodeKind Np) (NP_nodeA Np) (NP_nodeB Np) (NP_nodeC Np) (NP_nodeNext Np) (NP_low Np) (NP_high Np) (NP_setFrom Np) (NP_setTo Np) (NP_setNot Np) (NP_nodes Np) (NP_sets Np) (NP_ranges Np) ((NP_pat Np) + (1:Int32)) (NP_patEnd Np) (NP_broken Np)) u4_No u4_Nx u4_Nf u4_Na u4_Nh u4_Nq u4_Nj u4_tc u4_M1)) C in_MM t_MM t_MM_ok n_MM hP (hDD _ _ _ _ _ _ _ _ _ _ _ _) hS 0 mw_0 rfl 27 (by decide) k_8_17 rfl rfl (by decide +kernel) rfl rfl (Nat.le_of_ble_eq_true rfl) rfl d_MM_hex_58 (fun H locs hP hS => ?_)
    obtain ⟨x3_61, ex3_61⟩ : ∃ y : Int32, y = x3 + (1:Int32) := ⟨_, rfl⟩
    replace h := o_nm_at ex3_61 h
    refine lv_iinc (v := x3_61) (lv' := [(3, .int x3_61), (2, .int x2_50), (4, .int y0), (0, .ref (ad 0)), (1, .int u4_x1)]) hx hb d_MM_hex_61 hl (k := 4) rfl (by rw [ex3_61]; rfl) (by decide) rfl (fun ls hl => ?_)
    refine lv_goto (tgt := 4) hx hb d_MM_hex_64 (by decide) ?_
    cases h
    exact h0 rfl _ _ _ hP hS (lv_sub hl [3, 4, 1, 0] rfl)
  · replace h := o_ff c3 h
    cases h
    exact h1 (Nat.succ_ne_zero 0) _ _ _ hP hS (lv_sub hl [1] rfl)
set_option maxHeartbeats 4000000 in
set_option maxRecDepth 100000 in
theorem f_MM_hex_b4_a {E : (Nat → Prop) → State → Heap → Prop} {p : Program} {l : Launch} {e : Env} {s : State} {m : MethodId} {args : Array Value} {below : List Frame} {meth : Method} {c : Code} {D : va_G} {ad kd sd vd xd : Nat → Nat} {ca : Nat → ClassId} {A : Nat → Prop} {ky ty : Nat → Option Nat} {Q : State → Prop} (hE : o_EK E kd sd vd xd) (hKy : m_KY ky ty sd) (C : o_Cx E p s m args meth c D m_cls (m_tys ca) "SchemaJudgeModel" b_MM_hex (some .int) 5 cc_MM_hex A) (hDD : ∀ (rt : Nat) (Ni : SNI) (Np : SNP) (No : SNO) (Nx : SNX) (Nf : SNF) (Na : SNA) (Nh : SNH) (Nq : SNQ) (Nj : SNJ) (M0 : SMT) (M1 : SMT), va_D A (m_cw ad ca ky ty rt Ni Np No Nx Nf Na Nh Nq Nj M0 M1)) (n : Nat) (u4_x1 : Int32) (u4_tc : SMT) (u4_Ni : SNI) (u4_No : SNO) (u4_Nx : SNX) (u4_Nf : SNF) (u4_Na : SNA) (u4_Nh : SNH) (u4_Nq : SNQ) (u4_Nj : SNJ) (u4_M1 : SMT) (z : Int32 × Int32 × SNP) (q : Nat × Int32 × Int32 × SNP) (h : m_MM_hex_b4 n u4_x1 u4_tc z = some q) (h0 : q.1 = 0 → o_At p l e rm_MM_hex s m args below meth c Q m_cls D A 5 4 [] (m_cw ad ca ky ty 33 u4_Ni q.2.2.2 u4_No u4_Nx u4_Nf u4_Na u4_Nh u4_Nq u4_Nj u4_tc u4_M1) [(0, .ref (ad 0)), (1, .int u4_x1), (2, .int q.2.1), (3, .int q.2.2.1)]) (h1 : q.1 ≠ 0 → (if q.1 = 1 then o_At p l e rm_MM_hex s m args below meth c Q m_cls D A 5 36 [] (m_cw ad ca ky ty 33 u4_Ni q.2.2.2 u4_No u4_Nx u4_Nf u4_Na u4_Nh u4_Nq u4_Nj u4_tc u4_M1) [(0, .ref (ad 0))] else o_At p l e rm_MM_hex s m args below meth c Q m_cls D A 5 67 [] (m_cw ad ca ky ty 33 u4_Ni q.2.2.2 u4_No u4_Nx u4_Nf u4_Na u4_Nh u4_Nq u4_Nj u4_tc u4_M1) [(2, .int q.2.1)])) : o_At p l e rm_MM_hex s m args below meth c Q m_cls D A 5 4 [] (m_cw ad ca ky ty 33 u4_Ni z.2.2 u4_No u4_Nx u4_Nf u4_Na u4_Nh u4_Nq u4_Nj u4_tc u4_M1) [(0, .ref (ad 0)), (1, .int u4_x1), (2, .int z.1), (3, .int z.2.1)] := by
  unfold m_MM_hex_b4 at h
  intro H locs ls hP hS hl
  have C0 := C
  obtain ⟨hx, hb, -, -, -, hown, hts, hK, -, -⟩ := C0
  refine lv_iload_n hx hb d_MM_hex_4 rfl (lv_at hl 3 rfl) ?_
  refine lv_iload_n hx hb d_MM_hex_5 rfl (lv_at hl 1 rfl) ?_
  refine lv_icmp_ge (tgt := 67) hx hb d_MM_hex_6 (by decide) (fun c1 => ?_) (fun c1 => ?_)
  · replace h := o_tt c1 h
    cases h
    exact h1 (Nat.succ_ne_zero 1) _ _ _ hP hS (lv_sub hl [2] rfl)
  · replace h := o_ff c1 h
    refine lv_aload_n hx hb d_MM_hex_9 rfl (lv_at hl 0 rfl) ?_
    refine lv_iconst (v := (0:Int32)) hx hb d_MM_hex_10 (by decide) ?_
    obtain ⟨q1, hq1, h⟩ := o_bd_some h
    refine o_V (st1 := [.int q1]) (w1 := (m_cw ad ca ky ty 33 u4_Ni z.2.2 u4_No u4_Nx u4_Nf u4_Na u4_Nh u4_Nq u4_Nj u4_tc u4_M1)) hE.1 C (e_MM_p_a hE hKy l (0:Int32) u4_tc z.2.2 u4_Ni u4_No u4_Nx u4_Nf u4_Na u4_Nh u4_Nq u4_Nj u4_M1 hq1) hP (hDD _ _ _ _ _ _ _ _ _ _ _ _) hS hl.1 rfl mw_0 k_9_70 k_9_72 k_s_89 k_1_12 k_9_73 hv_MM_p rfl rfl ⟨(Nat.le_of_ble_eq_true rfl), (Nat.le_of_ble_eq_true rfl)⟩ rfl (Nat.le_of_ble_eq_true rfl) ⟨Nat.zero_le _, Nat.zero_le _⟩ rfl d_MM_hex_11 (fun H locs hP hS => ?_)
    refine lv_if_ge (tgt := 21) hx hb d_MM_hex_14 (by decide) (fun c2 => ?_) (fun c2 => ?_)
    · replace h := o_tt c2 h
      refine lv_aload_n hx hb d_MM_hex_21 rfl (lv_at hl 0 rfl) ?_
      refine lv_iconst (v := (0:Int32)) hx hb d_MM_hex_22 (by decide) ?_
      obtain ⟨q2, hq2, h⟩ := o_bd_some h
      refine o_V (st1 := [.int q2]) (w1 := (m_cw ad ca ky ty 33 u4_Ni z.2.2 u4_No u4_Nx u4_Nf u4_Na u4_Nh u4_Nq u4_Nj u4_tc u4_M1)) hE.1 C (e_MM_p_a hE hKy l (0:Int32) u4_tc z.2.2 u4_Ni u4_No u4_Nx u4_Nf u4_Na u4_Nh u4_Nq u4_Nj u4_M1 hq2) hP (hDD _ _ _ _ _ _ _ _ _ _ _ _) hS hl.1 rfl mw_0 k_9_70 k_9_72 k_s_89 k_1_12 k_9_73 hv_MM_p rfl rfl ⟨(Nat.le_of_ble_eq_true rfl), (Nat.le_of_ble_eq_true rfl)⟩ rfl (Nat.le_of_ble_eq_true rfl) ⟨Nat.zero_le _, Nat.zero_le _⟩ rfl d_MM_hex_23 (fun H locs hP hS => ?_)
      obtain ⟨q3, hq3, h⟩ := o_bd_some h
      refine o_S (st1 := [.int q3]) (w1 := (m_cw ad ca ky ty 33 u4_Ni z.2.2 u4_No u4_Nx u4_Nf u4_Na u4_Nh u4_Nq u4_Nj u4_tc u4_M1)) hE.1 C (e_MT_hex hE hKy l q2 u4_Ni z.2.2 u4_No u4_Nx u4_Nf u4_Na u4_Nh u4_Nq u4_Nj u4_tc u4_M1 33 hq3) hP (hDD _ _ _ _ _ _ _ _ _ _ _ _) hS hl.1 k_9_112 k_8_233 k_1_13 k_8_234 hs_MT_hex rfl rfl ⟨(Nat.le_of_ble_eq_true rfl), (Nat.le_of_ble_eq_true rfl)⟩ rfl (Nat.le_of_ble_eq_true rfl) ⟨Nat.zero_le _, Nat.zero_le _⟩ rfl d_MM_hex_26 (fun H locs hP hS => ?_)
      exact f_MM_hex_j29_a hE hKy C hDD n u4_x1 u4_tc u4_Ni u4_No u4_Nx u4_Nf u4_Na u4_Nh u4_Nq u4_Nj u4_M1 z.1 z.2.1 q3 z.2.2 h h0 h1 _ _ _ hP hS (lv_sub hl [0, 1, 2, 3] rfl)
    · replace h := o_ff c2 h
      refine lv_iconst (v := (-1:Int32)) hx hb d_MM_hex_17 (by decide) ?_
      refine lv_goto (tgt := 29) hx hb d_MM_hex_18 (by decide) ?_
      exact f_MM_hex_j29_a hE hKy C hDD n u4_x1 u4_tc u4_Ni u4_No u4_Nx u4_Nf u4_Na u4_Nh u4_Nq u4_Nj u4_M1 z.1 z.2.1 (-1:Int32) z.2.2 h h0 h1 _ _ _ hP hS (lv_sub hl [0, 1, 2, 3] rfl)
set_option maxHeartbeats 4000000 in
set_option maxRecDepth 100000 in
theorem e_MM_hex_a {E : (Nat → Prop) → State → Heap → Prop} {D : va_G} {ad kd sd vd xd : Nat → Nat} {ca : Nat → ClassId} {ky ty : Nat → Option Nat} (hE : o_EK E kd sd vd xd) (hKy : m_KY ky ty sd) (l : Launch) (n : Nat) (x1 : Int32) (tc : SMT) (Np : SNP) (Ni : SNI) (No : SNO) (Nx : SNX) (Nf : SNF) (Na : SNA) (Nh : SNH) (Nq : SNQ) (Nj : SNJ) (M1 : SMT) {r : Int32 × SNP} (h : m_MM_hex n x1 tc Np = some r) : o_Cn E l D m_cls (m_tys ca) y_MM_hex cc_MM_hex rm_MM_hex [.ref (ad 0), .int x1] (m_cw ad ca ky ty 33 Ni Np No Nx Nf Na Nh Nq Nj tc M1) (m_cw ad ca ky ty 33 Ni r.2 No Nx Nf Na Nh Nq Nj tc M1) (some (.int r.1)) := by
  refine o_Cn_of (by decide) (Nat.le_of_ble_eq_true rfl) ?_
  intro p e s m below meth c A ls C hD hP hS hl
  have hDD : ∀ (rt : Nat) (Ni : SNI) (Np : SNP) (No : SNO) (Nx : SNX) (Nf : SNF) (Na : SNA) (Nh : SNH) (Nq : SNQ) (Nj : SNJ) (M0 : SMT) (M1 : SMT), va_D A (m_cw ad ca ky ty rt Ni Np No Nx Nf Na Nh Nq Nj M0 M1) := fun _ _ _ _ _ _ _ _ _ _ _ _ => o_D_map hD rfl
  have hl : lv_has ls 5 [(0, .ref (ad 0)), (1, .int x1)] := hl
  unfold m_MM_hex at h
  have C0 := C
  obtain ⟨hx, hb, -, -, -, hown, hts, hK, -, -⟩ := C0
  refine lv_iconst (v := (0:Int32)) hx hb d_MM_hex_0 (by decide) ?_
  refine lv_istore_n (lv' := [(2, .int (0:Int32)), (0, .ref (ad 0)), (1, .int x1)]) hx hb d_MM_hex_1 rfl hl (by decide) rfl (fun ls hl => ?_)
  refine lv_iconst (v := (0:Int32)) hx hb d_MM_hex_2 (by decide) ?_
  refine lv_istore_n (lv' := [(3, .int (0:Int32)), (2, .int (0:Int32)), (0, .ref (ad 0)), (1, .int x1)]) hx hb d_MM_hex_3 rfl hl (by decide) rfl (fun ls hl => ?_)
  obtain ⟨q4, hq4, h⟩ := o_bd_some h
  refine o_sim2 (AH := fun zz => o_At p l e rm_MM_hex s m _ below meth c _ m_cls D A 5 4 [] (m_cw ad ca ky ty 33 Ni zz.2.2 No Nx Nf Na Nh Nq Nj tc M1) [(0, .ref (ad 0)), (1, .int x1), (2, .int zz.1), (3, .int zz.2.1)]) (AX := fun qq => if qq.1 = 1 then o_At p l e rm_MM_hex s m _ below meth c _ m_cls D A 5 36 [] (m_cw ad ca ky ty 33 Ni qq.2.2.2 No Nx Nf Na Nh Nq Nj tc M1) [(0, .ref (ad 0))] else o_At p l e rm_MM_hex s m _ below meth c _ m_cls D A 5 67 [] (m_cw ad ca ky ty 33 Ni qq.2.2.2 No Nx Nf Na Nh Nq Nj tc M1) [(2, .int qq.2.1)]) (fun zz qq h h0 h1 => f_MM_hex_b4_a hE hKy C hDD n x1 tc Ni No Nx Nf Na Nh Nq Nj M1 zz qq h h0 h1) n _ q4 hq4 ?_ _ _ _ hP hS (lv_sub hl [2, 3, 1, 0] rfl)
  by_cases c4 : q4.1 = 1
  · replace h := o_tt c4 h
    refine o_ip c4 ?_
    intro H locs ls hP hS hl
    refine lv_aload_n hx hb d_MM_hex_36 rfl (lv_at hl 0 rfl) ?_
    refine lv_iconst (v := (1:Int32)) hx hb d_MM_hex_37 (by decide) ?_
    refine o_put (v := .int (1:Int32)) (ty := .boolean) (w1 := (m_cw ad ca ky ty 33 Ni (NP_mk (NP_nodeKind q4.2.2.2) (NP_nodeA q4.2.2.2) (NP_nodeB q4.2.2.2) (NP_nodeC q4.2.2.2) (NP_nodeNext q4.2.2.2) (NP_low q4.2.2.2) (NP_high q4.2.2.2) (NP_setFrom q4.2.2.2) (NP_setTo q4.2.2.2) (NP_setNot q4.2.2.2) (NP_nodes q4.2.2.2) (NP_sets q4.2.2.2) (NP_ranges q4.2.2.2) (NP_pat q4.2.2.2) (NP_patEnd q4.2.2.2) (1:Int32)) No Nx Nf Na Nh Nq Nj tc M1)) C in_MM t_MM t_MM_ok n_MM hP (hDD _ _ _ _ _ _ _ _ _ _ _ _) hS 0 mw_0 rfl 32 (by decide) k_8_22 rfl rfl (by decide +kernel) rfl rfl (Nat.le_of_ble_eq_true rfl) rfl d_MM_hex_38 (fun H locs hP hS => ?_)
    refine lv_iconst (v := (0:Int32)) hx hb d_MM_hex_41 (by decide) ?_
    cases h
    exact o_ri (v := (0:Int32)) C hP hS d_MM_hex_42
  replace h := o_ff c4 h
  refine o_in_ c4 ?_
  intro H locs ls hP hS hl
  refine lv_iload_n hx hb d_MM_hex_67 rfl (lv_at hl 0 rfl) ?_
  cases h
  exact o_ri C hP hS d_MM_hex_68
set_option maxHeartbeats 4000000 in
set_option maxRecDepth 100000 in
theorem f_MM_hex_j29_b {E : (Nat → Prop) → State → Heap → Prop} {p : Program} {l : Launch} {e : Env} {s : State} {m : MethodId} {args : Array Value} {below : List Frame} {meth : Method} {c : Code} {D : va_G} {ad kd sd vd xd : Nat → Nat} {ca : Nat → ClassId} {A : Nat → Prop} {ky ty : Nat → Option Nat} {Q : State → Prop} (hE : o_EK E kd sd vd xd) (hKy : m_KY ky ty sd) (C : o_Cx E p s m args meth c D m_cls (m_tys ca) "SchemaJudgeModel" b_MM_hex (some .int) 5 cc_MM_hex A) (hDD : ∀ (rt : Nat) (Ni : SNI) (Np : SNP) (No : SNO) (Nx : SNX) (Nf : SNF) (Na : SNA) (Nh : SNH) (Nq : SNQ) (Nj : SNJ) (M0 : SMT) (M1 : SMT), va_D A (m_cw ad ca ky ty rt Ni Np No Nx Nf Na Nh Nq Nj M0 M1)) (n : Nat) (u4_x1 : Int32) (u4_tc : SMT) (u4_Ni : SNI) (u4_No : SNO) (u4_Nx : SNX) (u4_Nf : SNF) (u4_Na : SNA) (u4_Nh : SNH) (u4_Nq : SNQ) (u4_Nj : SNJ) (u4_M0 : SMT) (x2 : Int32) (x3 : Int32) (y0 : Int32) (Np : SNP) {q : Nat × Int32 × Int32 × SNP} (h : m_MM_hex_j29 n u4_x1 x2 x3 y0 u4_tc Np = some q) (h0 : q.1 = 0 → o_At p l e rm_MM_hex s m args below meth c Q m_cls D A 5 4 [] (m_cw ad ca ky ty 48 u4_Ni q.2.2.2 u4_No u4_Nx u4_Nf u4_Na u4_Nh u4_Nq u4_Nj u4_M0 u4_tc) [(0, .ref (ad 0)), (1, .int u4_x1), (2, .int q.2.1), (3, .int q.2.2.1)]) (h1 : q.1 ≠ 0 → (if q.1 = 1 then o_At p l e rm_MM_hex s m args below meth c Q m_cls D A 5 36 [] (m_cw ad ca ky ty 48 u4_Ni q.2.2.2 u4_No u4_Nx u4_Nf u4_Na u4_Nh u4_Nq u4_Nj u4_M0 u4_tc) [(0, .ref (ad 0))] else o_At p l e rm_MM_hex s m args below meth c Q m_cls D A 5 67 [] (m_cw ad ca ky ty 48 u4_Ni q.2.2.2 u4_No u4_Nx u4_Nf u4_Na u4_Nh u4_Nq u4_Nj u4_M0 u4_tc) [(2, .int q.2.1)])) : o_At p l e rm_MM_hex s m args below meth c Q m_cls D A 5 29 [.int y0] (m_cw ad ca ky ty 48 u4_Ni Np u4_No u4_Nx u4_Nf u4_Na u4_Nh u4_Nq u4_Nj u4_M0 u4_tc) [(0, .ref (ad 0)), (1, .int u4_x1), (2, .int x2), (3, .int x3)] := by
  unfold m_MM_hex_j29 at h
  intro H locs ls hP hS hl
  have C0 := C
  obtain ⟨hx, hb, -, -, -, hown, hts, hK, -, -⟩ := C0
  refine lv_istore (lv' := [(4, .int y0), (0, .ref (ad 0)), (1, .int u4_x1), (2, .int x2), (3, .int x3)]) hx hb d_MM_hex_29 hl (by decide) rfl (fun ls hl => ?_)
  refine lv_iload hx hb d_MM_hex_31 (lv_at hl 0 rfl) ?_
  refine lv_if_ge (tgt := 43) hx hb d_MM_hex_33 (by decide) (fun c3 => ?_) (fun c3 => ?_)
  · replace h := o_tt c3 h
    refine lv_bipush (v := (16:Int32)) hx hb d_MM_hex_43 (by decide) ?_
    refine lv_iload_n hx hb d_MM_hex_45 rfl (lv_at hl 3 rfl) ?_
    refine lv_imul hx hb d_MM_hex_46 ?_
    refine lv_iload hx hb d_MM_hex_47 (lv_at hl 0 rfl) ?_
    refine lv_iadd hx hb d_MM_hex_49 ?_
    refine lv_topi (fun x2_50 ex2_50 => ?_)
    replace h := o_nm_at ex2_50 h
    refine lv_istore_n (lv' := [(2, .int x2_50), (4, .int y0), (0, .ref (ad 0)), (1, .int u4_x1), (3, .int x3)]) hx hb d_MM_hex_50 rfl hl (by decide) rfl (fun ls hl => ?_)
    refine lv_aload_n hx hb d_MM_hex_51 rfl (lv_at hl 2 rfl) ?_
    refine lv_dup hx hb d_MM_hex_52 rfl ?_
    refine o_get (v := .int (NP_pat Np)) C in_MM hP 0 mw_0 rfl 27 (by decide) k_8_17 rfl rfl d_MM_hex_53 ?_
    refine lv_iconst (v := (1:Int32)) hx hb d_MM_hex_56 (by decide) ?_
    refine lv_iadd hx hb d_MM_hex_57 ?_
    refine o_put (v := .int ((NP_pat Np) + (1:Int32))) (ty := .int) (w1 := (m_cw ad ca ky ty 48 u4_Ni (NP_mk (NP_nodeKind Np) (NP_nodeA Np) (NP_nodeB Np) (NP_nodeC Np) (NP_nodeNext Np) (NP_low Np) (NP_high Np) (NP_setFrom Np) (NP_setTo Np) (NP_setNot Np) (NP_nodes Np) (NP_sets Np) (NP_ranges Np) ((NP_pat Np) + (1:Int32)) (NP_patEnd Np) (NP_broken Np)) u4_No u4_Nx u4_Nf u4_Na u4_Nh u4_Nq u4_Nj u4_M0 u4_tc)) C in_MM t_MM t_MM_ok n_MM hP (hDD _ _ _ _ _ _ _ _ _ _ _ _) hS 0 mw_0 rfl 27 (by decide) k_8_17 rfl rfl (by decide +kernel) rfl rfl (Nat.le_of_ble_eq_true rfl) rfl d_MM_hex_58 (fun H locs hP hS => ?_)
    obtain ⟨x3_61, ex3_61⟩ : ∃ y : Int32, y = x3 + (1:Int32) := ⟨_, rfl⟩
    replace h := o_nm_at ex3_61 h
    refine lv_iinc (v := x3_61) (lv' := [(3, .int x3_61), (2, .int x2_50), (4, .int y0), (0, .ref (ad 0)), (1, .int u4_x1)]) hx hb d_MM_hex_61 hl (k := 4) rfl (by rw [ex3_61]; rfl) (by decide) rfl (fun ls hl => ?_)
    refine lv_goto (tgt := 4) hx hb d_MM_hex_64 (by decide) ?_
    cases h
    exact h0 rfl _ _ _ hP hS (lv_sub hl [3, 4, 1, 0] rfl)
  · replace h := o_ff c3 h
    cases h
    exact h1 (Nat.succ_ne_zero 0) _ _ _ hP hS (lv_sub hl [1] rfl)
set_option maxHeartbeats 4000000 in
set_option maxRecDepth 100000 in
theorem f_MM_hex_b4_b {E : (Nat → Prop) → State → Heap → Prop} {p : Program} {l : Launch} {e : Env} {s : State} {m : MethodId} {args : Array Value} {below : List Frame} {meth : Method} {c : Code} {D : va_G} {ad kd sd vd xd : Nat → Nat} {ca : Nat → ClassId} {A : Nat → Prop} {ky ty : Nat → Option Nat} {Q : State → Prop} (hE : o_EK E kd sd vd xd) (hKy : m_KY ky ty sd) (C : o_Cx E p s m args meth c D m_cls (m_tys ca) "SchemaJudgeModel" b_MM_hex (some .int) 5 cc_MM_hex A) (hDD : ∀ (rt : Nat) (Ni : SNI) (Np : SNP) (No : SNO) (Nx : SNX) (Nf : SNF) (Na : SNA) (Nh : SNH) (Nq : SNQ) (Nj : SNJ) (M0 : SMT) (M1 : SMT), va_D A (m_cw ad ca ky ty rt Ni Np No Nx Nf Na Nh Nq Nj M0 M1)) (n : Nat) (u4_x1 : Int32) (u4_tc : SMT) (u4_Ni : SNI) (u4_No : SNO) (u4_Nx : SNX) (u4_Nf : SNF) (u4_Na : SNA) (u4_Nh : SNH) (u4_Nq : SNQ) (u4_Nj : SNJ) (u4_M0 : SMT) (z : Int32 × Int32 × SNP) (q : Nat × Int32 × Int32 × SNP) (h : m_MM_hex_b4 n u4_x1 u4_tc z = some q) (h0 : q.1 = 0 → o_At p l e rm_MM_hex s m args below meth c Q m_cls D A 5 4 [] (m_cw ad ca ky ty 48 u4_Ni q.2.2.2 u4_No u4_Nx u4_Nf u4_Na u4_Nh u4_Nq u4_Nj u4_M0 u4_tc) [(0, .ref (ad 0)), (1, .int u4_x1), (2, .int q.2.1), (3, .int q.2.2.1)]) (h1 : q.1 ≠ 0 → (if q.1 = 1 then o_At p l e rm_MM_hex s m args below meth c Q m_cls D A 5 36 [] (m_cw ad ca ky ty 48 u4_Ni q.2.2.2 u4_No u4_Nx u4_Nf u4_Na u4_Nh u4_Nq u4_Nj u4_M0 u4_tc) [(0, .ref (ad 0))] else o_At p l e rm_MM_hex s m args below meth c Q m_cls D A 5 67 [] (m_cw ad ca ky ty 48 u4_Ni q.2.2.2 u4_No u4_Nx u4_Nf u4_Na u4_Nh u4_Nq u4_Nj u4_M0 u4_tc) [(2, .int q.2.1)])) : o_At p l e rm_MM_hex s m args below meth c Q m_cls D A 5 4 [] (m_cw ad ca ky ty 48 u4_Ni z.2.2 u4_No u4_Nx u4_Nf u4_Na u4_Nh u4_Nq u4_Nj u4_M0 u4_tc) [(0, .ref (ad 0)), (1, .int u4_x1), (2, .int z.1), (3, .int z.2.1)] := by
  unfold m_MM_hex_b4 at h
  intro H locs ls hP hS hl
  have C0 := C
  obtain ⟨hx, hb, -, -, -, hown, hts, hK, -, -⟩ := C0
  refine lv_iload_n hx hb d_MM_hex_4 rfl (lv_at hl 3 rfl) ?_
  refine lv_iload_n hx hb d_MM_hex_5 rfl (lv_at hl 1 rfl) ?_
  refine lv_icmp_ge (tgt := 67) hx hb d_MM_hex_6 (by decide) (fun c1 => ?_) (fun c1 => ?_)
  · replace h := o_tt c1 h
    cases h
    exact h1 (Nat.succ_ne_zero 1) _ _ _ hP hS (lv_sub hl [2] rfl)
  · replace h := o_ff c1 h
    refine lv_aload_n hx hb d_MM_hex_9 rfl (lv_at hl 0 rfl) ?_
    refine lv_iconst (v := (0:Int32)) hx hb d_MM_hex_10 (by decide) ?_
    obtain ⟨q1, hq1, h⟩ := o_bd_some h
    refine o_V (st1 := [.int q1]) (w1 := (m_cw ad ca ky ty 48 u4_Ni z.2.2 u4_No u4_Nx u4_Nf u4_Na u4_Nh u4_Nq u4_Nj u4_M0 u4_tc)) hE.1 C (e_MM_p_b hE hKy l (0:Int32) u4_tc z.2.2 u4_Ni u4_No u4_Nx u4_Nf u4_Na u4_Nh u4_Nq u4_Nj u4_M0 hq1) hP (hDD _ _ _ _ _ _ _ _ _ _ _ _) hS hl.1 rfl mw_0 k_9_70 k_9_72 k_s_89 k_1_12 k_9_73 hv_MM_p rfl rfl ⟨(Nat.le_of_ble_eq_true rfl), (Nat.le_of_ble_eq_true rfl)⟩ rfl (Nat.le_of_ble_eq_true rfl) ⟨Nat.zero_le _, Nat.zero_le _⟩ rfl d_MM_hex_11 (fun H locs hP hS => ?_)
    refine lv_if_ge (tgt := 21) hx hb d_MM_hex_14 (by decide) (fun c2 => ?_) (fun c2 => ?_)
    · replace h := o_tt c2 h
      refine lv_aload_n hx hb d_MM_hex_21 rfl (lv_at hl 0 rfl) ?_
      refine lv_iconst (v := (0:Int32)) hx hb d_MM_hex_22 (by decide) ?_
      obtain ⟨q2, hq2, h⟩ := o_bd_some h
      refine o_V (st1 := [.int q2]) (w1 := (m_cw ad ca ky ty 48 u4_Ni z.2.2 u4_No u4_Nx u4_Nf u4_Na u4_Nh u4_Nq u4_Nj u4_M0 u4_tc)) hE.1 C (e_MM_p_b hE hKy l (0:Int32) u4_tc z.2.2 u4_Ni u4_No u4_Nx u4_Nf u4_Na u4_Nh u4_Nq u4_Nj u4_M0 hq2) hP (hDD _ _ _ _ _ _ _ _ _ _ _ _) hS hl.1 rfl mw_0 k_9_70 k_9_72 k_s_89 k_1_12 k_9_73 hv_MM_p rfl rfl ⟨(Nat.le_of_ble_eq_true rfl), (Nat.le_of_ble_eq_true rfl)⟩ rfl (Nat.le_of_ble_eq_true rfl) ⟨Nat.zero_le _, Nat.zero_le _⟩ rfl d_MM_hex_23 (fun H locs hP hS => ?_)
      obtain ⟨q3, hq3, h⟩ := o_bd_some h
      refine o_S (st1 := [.int q3]) (w1 := (m_cw ad ca ky ty 48 u4_Ni z.2.2 u4_No u4_Nx u4_Nf u4_Na u4_Nh u4_Nq u4_Nj u4_M0 u4_tc)) hE.1 C (e_MT_hex hE hKy l q2 u4_Ni z.2.2 u4_No u4_Nx u4_Nf u4_Na u4_Nh u4_Nq u4_Nj u4_M0 u4_tc 48 hq3) hP (hDD _ _ _ _ _ _ _ _ _ _ _ _) hS hl.1 k_9_112 k_8_233 k_1_13 k_8_234 hs_MT_hex rfl rfl ⟨(Nat.le_of_ble_eq_true rfl), (Nat.le_of_ble_eq_true rfl)⟩ rfl (Nat.le_of_ble_eq_true rfl) ⟨Nat.zero_le _, Nat.zero_le _⟩ rfl d_MM_hex_26 (fun H locs hP hS => ?_)
      exact f_MM_hex_j29_b hE hKy C hDD n u4_x1 u4_tc u4_Ni u4_No u4_Nx u4_Nf u4_Na u4_Nh u4_Nq u4_Nj u4_M0 z.1 z.2.1 q3 z.2.2 h h0 h1 _ _ _ hP hS (lv_sub hl [0, 1, 2, 3] rfl)
    · replace h := o_ff c2 h
      refine lv_iconst (v := (-1:Int32)) hx hb d_MM_hex_17 (by decide) ?_
      refine lv_goto (tgt := 29) hx hb d_MM_hex_18 (by decide) ?_
      exact f_MM_hex_j29_b hE hKy C hDD n u4_x1 u4_tc u4_Ni u4_No u4_Nx u4_Nf u4_Na u4_Nh u4_Nq u4_Nj u4_M0 z.1 z.2.1 (-1:Int32) z.2.2 h h0 h1 _ _ _ hP hS (lv_sub hl [0, 1, 2, 3] rfl)
set_option maxHeartbeats 4000000 in
set_option maxRecDepth 100000 in
theorem e_MM_hex_b {E : (Nat → Prop) → State → Heap → Prop} {D : va_G} {ad kd sd vd xd : Nat → Nat} {ca : Nat → ClassId} {ky ty : Nat → Option Nat} (hE : o_EK E kd sd vd xd) (hKy : m_KY ky ty sd) (l : Launch) (n : Nat) (x1 : Int32) (tc : SMT) (Np : SNP) (Ni : SNI) (No : SNO) (Nx : SNX) (Nf : SNF) (Na : SNA) (Nh : SNH) (Nq : SNQ) (Nj : SNJ) (M0 : SMT) {r : Int32 × SNP} (h : m_MM_hex n x1 tc Np = some r) : o_Cn E l D m_cls (m_tys ca) y_MM_hex cc_MM_hex rm_MM_hex [.ref (ad 0), .int x1] (m_cw ad ca ky ty 48 Ni Np No Nx Nf Na Nh Nq Nj M0 tc) (m_cw ad ca ky ty 48 Ni r.2 No Nx Nf Na Nh Nq Nj M0 tc) (some (.int r.1)) := by
  refine o_Cn_of (by decide) (Nat.le_of_ble_eq_true rfl) ?_
  intro p e s m below meth c A ls C hD hP hS hl
  have hDD : ∀ (rt : Nat) (Ni : SNI) (Np : SNP) (No : SNO) (Nx : SNX) (Nf : SNF) (Na : SNA) (Nh : SNH) (Nq : SNQ) (Nj : SNJ) (M0 : SMT) (M1 : SMT), va_D A (m_cw ad ca ky ty rt Ni Np No Nx Nf Na Nh Nq Nj M0 M1) := fun _ _ _ _ _ _ _ _ _ _ _ _ => o_D_map hD rfl
  have hl : lv_has ls 5 [(0, .ref (ad 0)), (1, .int x1)] := hl
  unfold m_MM_hex at h
  have C0 := C
  obtain ⟨hx, hb, -, -, -, hown, hts, hK, -, -⟩ := C0
  refine lv_iconst (v := (0:Int32)) hx hb d_MM_hex_0 (by decide) ?_
  refine lv_istore_n (lv' := [(2, .int (0:Int32)), (0, .ref (ad 0)), (1, .int x1)]) hx hb d_MM_hex_1 rfl hl (by decide) rfl (fun ls hl => ?_)
  refine lv_iconst (v := (0:Int32)) hx hb d_MM_hex_2 (by decide) ?_
  refine lv_istore_n (lv' := [(3, .int (0:Int32)), (2, .int (0:Int32)), (0, .ref (ad 0)), (1, .int x1)]) hx hb d_MM_hex_3 rfl hl (by decide) rfl (fun ls hl => ?_)
  obtain ⟨q4, hq4, h⟩ := o_bd_some h
  refine o_sim2 (AH := fun zz => o_At p l e rm_MM_hex s m _ below meth c _ m_cls D A 5 4 [] (m_cw ad ca ky ty 48 Ni zz.2.2 No Nx Nf Na Nh Nq Nj M0 tc) [(0, .ref (ad 0)), (1, .int x1), (2, .int zz.1), (3, .int zz.2.1)]) (AX := fun qq => if qq.1 = 1 then o_At p l e rm_MM_hex s m _ below meth c _ m_cls D A 5 36 [] (m_cw ad ca ky ty 48 Ni qq.2.2.2 No Nx Nf Na Nh Nq Nj M0 tc) [(0, .ref (ad 0))] else o_At p l e rm_MM_hex s m _ below meth c _ m_cls D A 5 67 [] (m_cw ad ca ky ty 48 Ni qq.2.2.2 No Nx Nf Na Nh Nq Nj M0 tc) [(2, .int qq.2.1)]) (fun zz qq h h0 h1 => f_MM_hex_b4_b hE hKy C hDD n x1 tc Ni No Nx Nf Na Nh Nq Nj M0 zz qq h h0 h1) n _ q4 hq4 ?_ _ _ _ hP hS (lv_sub hl [2, 3, 1, 0] rfl)
  by_cases c4 : q4.1 = 1
  · replace h := o_tt c4 h
    refine o_ip c4 ?_
    intro H locs ls hP hS hl
    refine lv_aload_n hx hb d_MM_hex_36 rfl (lv_at hl 0 rfl) ?_
    refine lv_iconst (v := (1:Int32)) hx hb d_MM_hex_37 (by decide) ?_
    refine o_put (v := .int (1:Int32)) (ty := .boolean) (w1 := (m_cw ad ca ky ty 48 Ni (NP_mk (NP_nodeKind q4.2.2.2) (NP_nodeA q4.2.2.2) (NP_nodeB q4.2.2.2) (NP_nodeC q4.2.2.2) (NP_nodeNext q4.2.2.2) (NP_low q4.2.2.2) (NP_high q4.2.2.2) (NP_setFrom q4.2.2.2) (NP_setTo q4.2.2.2) (NP_setNot q4.2.2.2) (NP_nodes q4.2.2.2) (NP_sets q4.2.2.2) (NP_ranges q4.2.2.2) (NP_pat q4.2.2.2) (NP_patEnd q4.2.2.2) (1:Int32)) No Nx Nf Na Nh Nq Nj M0 tc)) C in_MM t_MM t_MM_ok n_MM hP (hDD _ _ _ _ _ _ _ _ _ _ _ _) hS 0 mw_0 rfl 32 (by decide) k_8_22 rfl rfl (by decide +kernel) rfl rfl (Nat.le_of_ble_eq_true rfl) rfl d_MM_hex_38 (fun H locs hP hS => ?_)
    refine lv_iconst (v := (0:Int32)) hx hb d_MM_hex_41 (by decide) ?_
    cases h
    exact o_ri (v := (0:Int32)) C hP hS d_MM_hex_42
  replace h := o_ff c4 h
  refine o_in_ c4 ?_
  intro H locs ls hP hS hl
  refine lv_iload_n hx hb d_MM_hex_67 rfl (lv_at hl 0 rfl) ?_
  cases h
  exact o_ri C hP hS d_MM_hex_68
set_option maxHeartbeats 4000000 in
set_option maxRecDepth 100000 in
theorem f_MM_unicode_b30_a {E : (Nat → Prop) → State → Heap → Prop} {p : Program} {l : Launch} {e : Env} {s : State} {m : MethodId} {args : Array Value} {below : List Frame} {meth : Method} {c : Code} {D : va_G} {ad kd sd vd xd : Nat → Nat} {ca : Nat → ClassId} {A : Nat → Prop} {ky ty : Nat → Option Nat} {Q : State → Prop} (hE : o_EK E kd sd vd xd) (hKy : m_KY ky ty sd) (C : o_Cx E p s m args meth c D m_cls (m_tys ca) "SchemaJudgeModel" b_MM_unicode (some .int) 3 cc_MM_unicode A) (hDD : ∀ (rt : Nat) (Ni : SNI) (Np : SNP) (No : SNO) (Nx : SNX) (Nf : SNF) (Na : SNA) (Nh : SNH) (Nq : SNQ) (Nj : SNJ) (M0 : SMT) (M1 : SMT), va_D A (m_cw ad ca ky ty rt Ni Np No Nx Nf Na Nh Nq Nj M0 M1)) (n : Nat) (u30_tc : SMT) (u30_Ni : SNI) (u30_No : SNO) (u30_Nx : SNX) (u30_Nf : SNF) (u30_Na : SNA) (u30_Nh : SNH) (u30_Nq : SNQ) (u30_Nj : SNJ) (u30_M1 : SMT) (z : Int32 × Int32 × SNP) (q : Nat × Int32 × Int32 × SNP) (h : m_MM_unicode_b30 n u30_tc z = some q) (h0 : q.1 = 0 → o_At p l e rm_MM_unicode s m args below meth c Q m_cls D A 3 30 [] (m_cw ad ca ky ty 33 u30_Ni q.2.2.2 u30_No u30_Nx u30_Nf u30_Na u30_Nh u30_Nq u30_Nj u30_tc u30_M1) [(0, .ref (ad 0)), (1, .int q.2.1), (2, .int q.2.2.1)]) (h1 : q.1 ≠ 0 → (if q.1 = 1 then o_At p l e rm_MM_unicode s m args below meth c Q m_cls D A 3 70 [] (m_cw ad ca ky ty 33 u30_Ni q.2.2.2 u30_No u30_Nx u30_Nf u30_Na u30_Nh u30_Nq u30_Nj u30_tc u30_M1) [(0, .ref (ad 0))] else o_At p l e rm_MM_unicode s m args below meth c Q m_cls D A 3 93 [] (m_cw ad ca ky ty 33 u30_Ni q.2.2.2 u30_No u30_Nx u30_Nf u30_Na u30_Nh u30_Nq u30_Nj u30_tc u30_M1) [(0, .ref (ad 0)), (1, .int q.2.1), (2, .int q.2.2.1)])) : o_At p l e rm_MM_unicode s m args below meth c Q m_cls D A 3 30 [] (m_cw ad ca ky ty 33 u30_Ni z.2.2 u30_No u30_Nx u30_Nf u30_Na u30_Nh u30_Nq u30_Nj u30_tc u30_M1) [(0, .ref (ad 0)), (1, .int z.1), (2, .int z.2.1)] := by
  unfold m_MM_unicode_b30 at h
  intro H locs ls hP hS hl
  have C0 := C
  obtain ⟨hx, hb, -, -, -, hown, hts, hK, -, -⟩ := C0
  refine lv_aload_n hx hb d_MM_unicode_30 rfl (lv_at hl 0 rfl) ?_
  refine lv_iconst (v := (0:Int32)) hx hb d_MM_unicode_31 (by decide) ?_
  obtain ⟨q2, hq2, h⟩ := o_bd_some h
  refine o_V (st1 := [.int q2]) (w1 := (m_cw ad ca ky ty 33 u30_Ni z.2.2 u30_No u30_Nx u30_Nf u30_Na u30_Nh u30_Nq u30_Nj u30_tc u30_M1)) hE.1 C (e_MM_p_a hE hKy l (0:Int32) u30_tc z.2.2 u30_Ni u30_No u30_Nx u30_Nf u30_Na u30_Nh u30_Nq u30_Nj u30_M1 hq2) hP (hDD _ _ _ _ _ _ _ _ _ _ _ _) hS hl.1 rfl mw_0 k_9_70 k_9_72 k_s_89 k_1_12 k_9_73 hv_MM_p rfl rfl ⟨(Nat.le_of_ble_eq_true rfl), (Nat.le_of_ble_eq_true rfl)⟩ rfl (Nat.le_of_ble_eq_true rfl) ⟨Nat.zero_le _, Nat.zero_le _⟩ rfl d_MM_unicode_32 (fun H locs hP hS => ?_)
  refine lv_if_lt (tgt := 93) hx hb d_MM_unicode_35 (by decide) (fun c2 => ?_) (fun c2 => ?_)
  · replace h := o_tt c2 h
    cases h
    exact h1 (Nat.succ_ne_zero 1) _ _ _ hP hS (lv_sub hl [0, 1, 2] rfl)
  · replace h := o_ff c2 h
    refine lv_aload_n hx hb d_MM_unicode_38 rfl (lv_at hl 0 rfl) ?_
    refine lv_iconst (v := (0:Int32)) hx hb d_MM_unicode_39 (by decide) ?_
    obtain ⟨q3, hq3, h⟩ := o_bd_some h
    refine o_V (st1 := [.int q3]) (w1 := (m_cw ad ca ky ty 33 u30_Ni z.2.2 u30_No u30_Nx u30_Nf u30_Na u30_Nh u30_Nq u30_Nj u30_tc u30_M1)) hE.1 C (e_MM_p_a hE hKy l (0:Int32) u30_tc z.2.2 u30_Ni u30_No u30_Nx u30_Nf u30_Na u30_Nh u30_Nq u30_Nj u30_M1 hq3) hP (hDD _ _ _ _ _ _ _ _ _ _ _ _) hS hl.1 rfl mw_0 k_9_70 k_9_72 k_s_89 k_1_12 k_9_73 hv_MM_p rfl rfl ⟨(Nat.le_of_ble_eq_true rfl), (Nat.le_of_ble_eq_true rfl)⟩ rfl (Nat.le_of_ble_eq_true rfl) ⟨Nat.zero_le _, Nat.zero_le _⟩ rfl d_MM_unicode_40 (fun H locs hP hS => ?_)
    obtain ⟨q4, hq4, h⟩ := o_bd_some h
    refine o_S (st1 := [.int q4]) (w1 := (m_cw ad ca ky ty 33 u30_Ni z.2.2 u30_No u30_Nx u30_Nf u30_Na u30_Nh u30_Nq u30_Nj u30_tc u30_M1)) hE.1 C (e_MT_hex hE hKy l q3 u30_Ni z.2.2 u30_No u30_Nx u30_Nf u30_Na u30_Nh u30_Nq u30_Nj u30_tc u30_M1 33 hq4) hP (hDD _ _ _ _ _ _ _ _ _ _ _ _) hS hl.1 k_9_112 k_8_233 k_1_13 k_8_234 hs_MT_hex rfl rfl ⟨(Nat.le_of_ble_eq_true rfl), (Nat.le_of_ble_eq_true rfl)⟩ rfl (Nat.le_of_ble_eq_true rfl) ⟨Nat.zero_le _, Nat.zero_le _⟩ rfl d_MM_unicode_43 (fun H locs hP hS => ?_)
    refine lv_if_lt (tgt := 93) hx hb d_MM_unicode_46 (by decide) (fun c3 => ?_) (fun c3 => ?_)
    · replace h := o_tt c3 h
      cases h
      exact h1 (Nat.succ_ne_zero 1) _ _ _ hP hS (lv_sub hl [0, 1, 2] rfl)
    · replace h := o_ff c3 h
      refine lv_bipush (v := (16:Int32)) hx hb d_MM_unicode_49 (by decide) ?_
      refine lv_iload_n hx hb d_MM_unicode_51 rfl (lv_at hl 1 rfl) ?_
      refine lv_imul hx hb d_MM_unicode_52 ?_
      refine lv_aload_n hx hb d_MM_unicode_53 rfl (lv_at hl 0 rfl) ?_
      refine lv_iconst (v := (0:Int32)) hx hb d_MM_unicode_54 (by decide) ?_
      obtain ⟨q5, hq5, h⟩ := o_bd_some h
      refine o_V (st1 := [.int q5, .int ((16:Int32) * z.1)]) (w1 := (m_cw ad ca ky ty 33 u30_Ni z.2.2 u30_No u30_Nx u30_Nf u30_Na u30_Nh u30_Nq u30_Nj u30_tc u30_M1)) hE.1 C (e_MM_p_a hE hKy l (0:Int32) u30_tc z.2.2 u30_Ni u30_No u30_Nx u30_Nf u30_Na u30_Nh u30_Nq u30_Nj u30_M1 hq5) hP (hDD _ _ _ _ _ _ _ _ _ _ _ _) hS hl.1 rfl mw_0 k_9_70 k_9_72 k_s_89 k_1_12 k_9_73 hv_MM_p rfl rfl ⟨(Nat.le_of_ble_eq_true rfl), (Nat.le_of_ble_eq_true rfl)⟩ rfl (Nat.le_of_ble_eq_true rfl) ⟨Nat.zero_le _, Nat.zero_le _⟩ rfl d_MM_unicode_55 (fun H locs hP hS => ?_)
      obtain ⟨q6, hq6, h⟩ := o_bd_some h
      refine o_S (st1 := [.int q6, .int ((16:Int32) * z.1)]) (w1 := (m_cw ad ca ky ty 33 u30_Ni z.2.2 u30_No u30_Nx u30_Nf u30_Na u30_Nh u30_Nq u30_Nj u30_tc u30_M1)) hE.1 C (e_MT_hex hE hKy l q5 u30_Ni z.2.2 u30_No u30_Nx u30_Nf u30_Na u30_Nh u30_Nq u30_Nj u30_tc u30_M1 33 hq6) hP (hDD _ _ _ _ _ _ _ _ _ _ _ _) hS hl.1 k_9_112 k_8_233 k_1_13 k_8_234 hs_MT_hex rfl rfl ⟨(Nat.le_of_ble_eq_true rfl), (Nat.le_of_ble_eq_true rfl)⟩ rfl (Nat.le_of_ble_eq_true rfl) ⟨Nat.zero_le _, Nat.zero_le _⟩ rfl d_MM_unicode_58 (fun H locs hP hS => ?_)
      refine lv_iadd hx hb d_MM_unicode_61 ?_
      refine lv_topi (fun x1_62 ex1_62 => ?_)
      replace h := o_nm_at ex1_62 h
      refine lv_istore_n (lv' := [(1, .int x1_62), (0, .ref (ad 0)), (2, .int z.2.1)]) hx hb d_MM_unicode_62 rfl hl (by decide) rfl (fun ls hl => ?_)
      refine lv_iload_n hx hb d_MM_unicode_63 rfl (lv_at hl 0 rfl) ?_
      refine lv_ldcw (v := (1114111:Int32)) hx hb hown (hts _ k_9_107) d_MM_unicode_64 ?_
      refine lv_icmp_le (tgt := 77) hx hb d_MM_unicode_67 (by decide) (fun c4 => ?_) (fun c4 => ?_)
      · replace h := o_tt c4 h
        refine lv_aload_n hx hb d_MM_unicode_77 rfl (lv_at hl 1 rfl) ?_
        refine lv_dup hx hb d_MM_unicode_78 rfl ?_
        refine o_get (v := .int (NP_pat z.2.2)) C in_MM hP 0 mw_0 rfl 27 (by decide) k_8_17 rfl rfl d_MM_unicode_79 ?_
        refine lv_iconst (v := (1:Int32)) hx hb d_MM_unicode_82 (by decide) ?_
        refine lv_iadd hx hb d_MM_unicode_83 ?_
        refine o_put (v := .int ((NP_pat z.2.2) + (1:Int32))) (ty := .int) (w1 := (m_cw ad ca ky ty 33 u30_Ni (NP_mk (NP_nodeKind z.2.2) (NP_nodeA z.2.2) (NP_nodeB z.2.2) (NP_nodeC z.2.2) (NP_nodeNext z.2.2) (NP_low z.2.2) (NP_high z.2.2) (NP_setFrom z.2.2) (NP_setTo z.2.2) (NP_setNot z.2.2) (NP_nodes z.2.2) (NP_sets z.2.2) (NP_ranges z.2.2) ((NP_pat z.2.2) + (1:Int32)) (NP_patEnd z.2.2) (NP_broken z.2.2)) u30_No u30_Nx u30_Nf u30_Na u30_Nh u30_Nq u30_Nj u30_tc u30_M1)) C in_MM t_MM t_MM_ok n_MM hP (hDD _ _ _ _ _ _ _ _ _ _ _ _) hS 0 mw_0 rfl 27 (by decide) k_8_17 rfl rfl (by decide +kernel) rfl rfl (Nat.le_of_ble_eq_true rfl) rfl d_MM_unicode_84 (fun H locs hP hS => ?_)
        obtain ⟨x2_87, ex2_87⟩ : ∃ y : Int32, y = z.2.1 + (1:Int32) := ⟨_, rfl⟩
        replace h := o_nm_at ex2_87 h
        refine lv_iinc (v := x2_87) (lv' := [(2, .int x2_87), (1, .int x1_62), (0, .ref (ad 0))]) hx hb d_MM_unicode_87 hl (k := 2) rfl (by rw [ex2_87]; rfl) (by decide) rfl (fun ls hl => ?_)
        refine lv_goto (tgt := 30) hx hb d_MM_unicode_90 (by decide) ?_
        cases h
        exact h0 rfl _ _ _ hP hS (lv_sub hl [2, 1, 0] rfl)
      · replace h := o_ff c4 h
        cases h
        exact h1 (Nat.succ_ne_zero 0) _ _ _ hP hS (lv_sub hl [1] rfl)
set_option maxHeartbeats 4000000 in
set_option maxRecDepth 100000 in
theorem f_MM_unicode_j93_a {E : (Nat → Prop) → State → Heap → Prop} {p : Program} {l : Launch} {e : Env} {s : State} {m : MethodId} {args : Array Value} {below : List Frame} {meth : Method} {c : Code} {D : va_G} {ad kd sd vd xd : Nat → Nat} {ca : Nat → ClassId} {A : Nat → Prop} {ky ty : Nat → Option Nat} (hE : o_EK E kd sd vd xd) (hKy : m_KY ky ty sd) (C : o_Cx E p s m args meth c D m_cls (m_tys ca) "SchemaJudgeModel" b_MM_unicode (some .int) 3 cc_MM_unicode A) (hDD : ∀ (rt : Nat) (Ni : SNI) (Np : SNP) (No : SNO) (Nx : SNX) (Nf : SNF) (Na : SNA) (Nh : SNH) (Nq : SNQ) (Nj : SNJ) (M0 : SMT) (M1 : SMT), va_D A (m_cw ad ca ky ty rt Ni Np No Nx Nf Na Nh Nq Nj M0 M1)) (n : Nat) (x1 : Int32) (x2 : Int32) (tc : SMT) (Np : SNP) (Ni : SNI) (No : SNO) (Nx : SNX) (Nf : SNF) (Na : SNA) (Nh : SNH) (Nq : SNQ) (Nj : SNJ) (M1 : SMT) {r : Int32 × SNP} (h : m_MM_unicode_j93 n x1 x2 tc Np = some r) : o_At p l e rm_MM_unicode s m args below meth c (MQ below (o_Qx D m_cls (some (.int r.1)) (m_cw ad ca ky ty 33 Ni r.2 No Nx Nf Na Nh Nq Nj tc M1) A) args s 0 0 A) m_cls D A 3 93 [] (m_cw ad ca ky ty 33 Ni Np No Nx Nf Na Nh Nq Nj tc M1) [(0, .ref (ad 0)), (1, .int x1), (2, .int x2)] := by
  unfold m_MM_unicode_j93 at h
  intro H locs ls hP hS hl
  have C0 := C
  obtain ⟨hx, hb, -, -, -, hown, hts, hK, -, -⟩ := C0
  refine lv_iload_n hx hb d_MM_unicode_93 rfl (lv_at hl 2 rfl) ?_
  refine lv_if_eq (tgt := 107) hx hb d_MM_unicode_94 (by decide) (fun c5 => ?_) (fun c5 => ?_)
  · replace h := o_tt c5 h
    refine lv_aload_n hx hb d_MM_unicode_107 rfl (lv_at hl 0 rfl) ?_
    refine lv_iconst (v := (1:Int32)) hx hb d_MM_unicode_108 (by decide) ?_
    refine o_put (v := .int (1:Int32)) (ty := .boolean) (w1 := (m_cw ad ca ky ty 33 Ni (NP_mk (NP_nodeKind Np) (NP_nodeA Np) (NP_nodeB Np) (NP_nodeC Np) (NP_nodeNext Np) (NP_low Np) (NP_high Np) (NP_setFrom Np) (NP_setTo Np) (NP_setNot Np) (NP_nodes Np) (NP_sets Np) (NP_ranges Np) (NP_pat Np) (NP_patEnd Np) (1:Int32)) No Nx Nf Na Nh Nq Nj tc M1)) C in_MM t_MM t_MM_ok n_MM hP (hDD _ _ _ _ _ _ _ _ _ _ _ _) hS 0 mw_0 rfl 32 (by decide) k_8_22 rfl rfl (by decide +kernel) rfl rfl (Nat.le_of_ble_eq_true rfl) rfl d_MM_unicode_109 (fun H locs hP hS => ?_)
    refine lv_iconst (v := (0:Int32)) hx hb d_MM_unicode_112 (by decide) ?_
    cases h
    exact o_ri (v := (0:Int32)) C hP hS d_MM_unicode_113
  · replace h := o_ff c5 h
    refine lv_aload_n hx hb d_MM_unicode_97 rfl (lv_at hl 0 rfl) ?_
    refine lv_iconst (v := (0:Int32)) hx hb d_MM_unicode_98 (by decide) ?_
    obtain ⟨q8, hq8, h⟩ := o_bd_some h
    refine o_V (st1 := [.int q8]) (w1 := (m_cw ad ca ky ty 33 Ni Np No Nx Nf Na Nh Nq Nj tc M1)) hE.1 C (e_MM_p_a hE hKy l (0:Int32) tc Np Ni No Nx Nf Na Nh Nq Nj M1 hq8) hP (hDD _ _ _ _ _ _ _ _ _ _ _ _) hS hl.1 rfl mw_0 k_9_70 k_9_72 k_s_89 k_1_12 k_9_73 hv_MM_p rfl rfl ⟨(Nat.le_of_ble_eq_true rfl), (Nat.le_of_ble_eq_true rfl)⟩ rfl (Nat.le_of_ble_eq_true rfl) ⟨Nat.zero_le _, Nat.zero_le _⟩ rfl d_MM_unicode_99 (fun H locs hP hS => ?_)
    refine lv_bipush (v := (125:Int32)) hx hb d_MM_unicode_102 (by decide) ?_
    refine lv_icmp_eq (tgt := 114) hx hb d_MM_unicode_104 (by decide) (fun c6 => ?_) (fun c6 => ?_)
    · replace h := o_tt c6 h
      refine lv_aload_n hx hb d_MM_unicode_114 rfl (lv_at hl 0 rfl) ?_
      refine lv_dup hx hb d_MM_unicode_115 rfl ?_
      refine o_get (v := .int (NP_pat Np)) C in_MM hP 0 mw_0 rfl 27 (by decide) k_8_17 rfl rfl d_MM_unicode_116 ?_
      refine lv_iconst (v := (1:Int32)) hx hb d_MM_unicode_119 (by decide) ?_
      refine lv_iadd hx hb d_MM_unicode_120 ?_
      refine o_put (v := .int ((NP_pat Np) + (1:Int32))) (ty := .int) (w1 := (m_cw ad ca ky ty 33 Ni (NP_mk (NP_nodeKind Np) (NP_nodeA Np) (NP_nodeB Np) (NP_nodeC Np) (NP_nodeNext Np) (NP_low Np) (NP_high Np) (NP_setFrom Np) (NP_setTo Np) (NP_setNot Np) (NP_nodes Np) (NP_sets Np) (NP_ranges Np) ((NP_pat Np) + (1:Int32)) (NP_patEnd Np) (NP_broken Np)) No Nx Nf Na Nh Nq Nj tc M1)) C in_MM t_MM t_MM_ok n_MM hP (hDD _ _ _ _ _ _ _ _ _ _ _ _) hS 0 mw_0 rfl 27 (by decide) k_8_17 rfl rfl (by decide +kernel) rfl rfl (Nat.le_of_ble_eq_true rfl) rfl d_MM_unicode_121 (fun H locs hP hS => ?_)
      refine lv_iload_n hx hb d_MM_unicode_124 rfl (lv_at hl 1 rfl) ?_
      cases h
      exact o_ri C hP hS d_MM_unicode_125
    · replace h := o_ff c6 h
      refine lv_aload_n hx hb d_MM_unicode_107 rfl (lv_at hl 0 rfl) ?_
      refine lv_iconst (v := (1:Int32)) hx hb d_MM_unicode_108 (by decide) ?_
      refine o_put (v := .int (1:Int32)) (ty := .boolean) (w1 := (m_cw ad ca ky ty 33 Ni (NP_mk (NP_nodeKind Np) (NP_nodeA Np) (NP_nodeB Np) (NP_nodeC Np) (NP_nodeNext Np) (NP_low Np) (NP_high Np) (NP_setFrom Np) (NP_setTo Np) (NP_setNot Np) (NP_nodes Np) (NP_sets Np) (NP_ranges Np) (NP_pat Np) (NP_patEnd Np) (1:Int32)) No Nx Nf Na Nh Nq Nj tc M1)) C in_MM t_MM t_MM_ok n_MM hP (hDD _ _ _ _ _ _ _ _ _ _ _ _) hS 0 mw_0 rfl 32 (by decide) k_8_22 rfl rfl (by decide +kernel) rfl rfl (Nat.le_of_ble_eq_true rfl) rfl d_MM_unicode_109 (fun H locs hP hS => ?_)
      refine lv_iconst (v := (0:Int32)) hx hb d_MM_unicode_112 (by decide) ?_
      cases h
      exact o_ri (v := (0:Int32)) C hP hS d_MM_unicode_113
set_option maxHeartbeats 4000000 in
set_option maxRecDepth 100000 in
theorem e_MM_unicode_a {E : (Nat → Prop) → State → Heap → Prop} {D : va_G} {ad kd sd vd xd : Nat → Nat} {ca : Nat → ClassId} {ky ty : Nat → Option Nat} (hE : o_EK E kd sd vd xd) (hKy : m_KY ky ty sd) (l : Launch) (n : Nat)  (tc : SMT) (Np : SNP) (Ni : SNI) (No : SNO) (Nx : SNX) (Nf : SNF) (Na : SNA) (Nh : SNH) (Nq : SNQ) (Nj : SNJ) (M1 : SMT) {r : Int32 × SNP} (h : m_MM_unicode n tc Np = some r) : o_Cn E l D m_cls (m_tys ca) y_MM_unicode cc_MM_unicode rm_MM_unicode [.ref (ad 0)] (m_cw ad ca ky ty 33 Ni Np No Nx Nf Na Nh Nq Nj tc M1) (m_cw ad ca ky ty 33 Ni r.2 No Nx Nf Na Nh Nq Nj tc M1) (some (.int r.1)) := by
  refine o_Cn_of (by decide) (Nat.le_of_ble_eq_true rfl) ?_
  intro p e s m below meth c A ls C hD hP hS hl
  have hDD : ∀ (rt : Nat) (Ni : SNI) (Np : SNP) (No : SNO) (Nx : SNX) (Nf : SNF) (Na : SNA) (Nh : SNH) (Nq : SNQ) (Nj : SNJ) (M0 : SMT) (M1 : SMT), va_D A (m_cw ad ca ky ty rt Ni Np No Nx Nf Na Nh Nq Nj M0 M1) := fun _ _ _ _ _ _ _ _ _ _ _ _ => o_D_map hD rfl
  have hl : lv_has ls 3 [(0, .ref (ad 0))] := hl
  unfold m_MM_unicode at h
  have C0 := C
  obtain ⟨hx, hb, -, -, -, hown, hts, hK, -, -⟩ := C0
  refine lv_aload_n hx hb d_MM_unicode_0 rfl (lv_at hl 0 rfl) ?_
  refine lv_iconst (v := (0:Int32)) hx hb d_MM_unicode_1 (by decide) ?_
  obtain ⟨q1, hq1, h⟩ := o_bd_some h
  refine o_V (st1 := [.int q1]) (w1 := (m_cw ad ca ky ty 33 Ni Np No Nx Nf Na Nh Nq Nj tc M1)) hE.1 C (e_MM_p_a hE hKy l (0:Int32) tc Np Ni No Nx Nf Na Nh Nq Nj M1 hq1) hP (hDD _ _ _ _ _ _ _ _ _ _ _ _) hS hl.1 rfl mw_0 k_9_70 k_9_72 k_s_89 k_1_12 k_9_73 hv_MM_p rfl rfl ⟨(Nat.le_of_ble_eq_true rfl), (Nat.le_of_ble_eq_true rfl)⟩ rfl (Nat.le_of_ble_eq_true rfl) ⟨Nat.zero_le _, Nat.zero_le _⟩ rfl d_MM_unicode_2 (fun H locs hP hS => ?_)
  refine lv_bipush (v := (123:Int32)) hx hb d_MM_unicode_5 (by decide) ?_
  refine lv_icmp_eq (tgt := 16) hx hb d_MM_unicode_7 (by decide) (fun c1 => ?_) (fun c1 => ?_)
  · replace h := o_tt c1 h
    refine lv_aload_n hx hb d_MM_unicode_16 rfl (lv_at hl 0 rfl) ?_
    refine lv_dup hx hb d_MM_unicode_17 rfl ?_
    refine o_get (v := .int (NP_pat Np)) C in_MM hP 0 mw_0 rfl 27 (by decide) k_8_17 rfl rfl d_MM_unicode_18 ?_
    refine lv_iconst (v := (1:Int32)) hx hb d_MM_unicode_21 (by decide) ?_
    refine lv_iadd hx hb d_MM_unicode_22 ?_
    refine o_put (v := .int ((NP_pat Np) + (1:Int32))) (ty := .int) (w1 := (m_cw ad ca ky ty 33 Ni (NP_mk (NP_nodeKind Np) (NP_nodeA Np) (NP_nodeB Np) (NP_nodeC Np) (NP_nodeNext Np) (NP_low Np) (NP_high Np) (NP_setFrom Np) (NP_setTo Np) (NP_setNot Np) (NP_nodes Np) (NP_sets Np) (NP_ranges Np) ((NP_pat Np) + (1:Int32)) (NP_patEnd Np) (NP_broken Np)) No Nx Nf Na Nh Nq Nj tc M1)) C in_MM t_MM t_MM_ok n_MM hP (hDD _ _ _ _ _ _ _ _ _ _ _ _) hS 0 mw_0 rfl 27 (by decide) k_8_17 rfl rfl (by decide +kernel) rfl rfl (Nat.le_of_ble_eq_true rfl) rfl d_MM_unicode_23 (fun H locs hP hS => ?_)
    refine lv_iconst (v := (0:Int32)) hx hb d_MM_unicode_26 (by decide) ?_
    refine lv_istore_n (lv' := [(1, .int (0:Int32)), (0, .ref (ad 0))]) hx hb d_MM_unicode_27 rfl hl (by decide) rfl (fun ls hl => ?_)
    refine lv_iconst (v := (0:Int32)) hx hb d_MM_unicode_28 (by decide) ?_
    refine lv_istore_n (lv' := [(2, .int (0:Int32)), (1, .int (0:Int32)), (0, .ref (ad 0))]) hx hb d_MM_unicode_29 rfl hl (by decide) rfl (fun ls hl => ?_)
    obtain ⟨q7, hq7, h⟩ := o_bd_some h
    refine o_sim2 (AH := fun zz => o_At p l e rm_MM_unicode s m _ below meth c _ m_cls D A 3 30 [] (m_cw ad ca ky ty 33 Ni zz.2.2 No Nx Nf Na Nh Nq Nj tc M1) [(0, .ref (ad 0)), (1, .int zz.1), (2, .int zz.2.1)]) (AX := fun qq => if qq.1 = 1 then o_At p l e rm_MM_unicode s m _ below meth c _ m_cls D A 3 70 [] (m_cw ad ca ky ty 33 Ni qq.2.2.2 No Nx Nf Na Nh Nq Nj tc M1) [(0, .ref (ad 0))] else o_At p l e rm_MM_unicode s m _ below meth c _ m_cls D A 3 93 [] (m_cw ad ca ky ty 33 Ni qq.2.2.2 No Nx Nf Na Nh Nq Nj tc M1) [(0, .ref (ad 0)), (1, .int qq.2.1), (2, .int qq.2.2.1)]) (fun zz qq h h0 h1 => f_MM_unicode_b30_a hE hKy C hDD n tc Ni No Nx Nf Na Nh Nq Nj M1 zz qq h h0 h1) n _ q7 hq7 ?_ _ _ _ hP hS (lv_sub hl [2, 1, 0] rfl)
    by_cases c7 : q7.1 = 1
    · replace h := o_tt c7 h
      refine o_ip c7 ?_
      intro H locs ls hP hS hl
      refine lv_aload_n hx hb d_MM_unicode_70 rfl (lv_at hl 0 rfl) ?_
      refine lv_iconst (v := (1:Int32)) hx hb d_MM_unicode_71 (by decide) ?_
      refine o_put (v := .int (1:Int32)) (ty := .boolean) (w1 := (m_cw ad ca ky ty 33 Ni (NP_mk (NP_nodeKind q7.2.2.2) (NP_nodeA q7.2.2.2) (NP_nodeB q7.2.2.2) (NP_nodeC q7.2.2.2) (NP_nodeNext q7.2.2.2) (NP_low q7.2.2.2) (NP_high q7.2.2.2) (NP_setFrom q7.2.2.2) (NP_setTo q7.2.2.2) (NP_setNot q7.2.2.2) (NP_nodes q7.2.2.2) (NP_sets q7.2.2.2) (NP_ranges q7.2.2.2) (NP_pat q7.2.2.2) (NP_patEnd q7.2.2.2) (1:Int32)) No Nx Nf Na Nh Nq Nj tc M1)) C in_MM t_MM t_MM_ok n_MM hP (hDD _ _ _ _ _ _ _ _ _ _ _ _) hS 0 mw_0 rfl 32 (by decide) k_8_22 rfl rfl (by decide +kernel) rfl rfl (Nat.le_of_ble_eq_true rfl) rfl d_MM_unicode_72 (fun H locs hP hS => ?_)
      refine lv_iconst (v := (0:Int32)) hx hb d_MM_unicode_75 (by decide) ?_
      cases h
      exact o_ri (v := (0:Int32)) C hP hS d_MM_unicode_76
    replace h := o_ff c7 h
    refine o_in_ c7 ?_
    intro H locs ls hP hS hl
    exact f_MM_unicode_j93_a hE hKy C hDD n q7.2.1 q7.2.2.1 tc q7.2.2.2 Ni No Nx Nf Na Nh Nq Nj M1 h _ _ _ hP hS (lv_sub hl [0, 1, 2] rfl)
  · replace h := o_ff c1 h
    refine lv_aload_n hx hb d_MM_unicode_10 rfl (lv_at hl 0 rfl) ?_
    refine lv_iconst (v := (4:Int32)) hx hb d_MM_unicode_11 (by decide) ?_
    obtain ⟨q9, hq9, h⟩ := o_bd_some h
    refine o_V (st1 := [.int q9.1]) (w1 := (m_cw ad ca ky ty 33 Ni q9.2 No Nx Nf Na Nh Nq Nj tc M1)) hE.1 C (e_MM_hex_a hE hKy l n (4:Int32) tc Np Ni No Nx Nf Na Nh Nq Nj M1 hq9) hP (hDD _ _ _ _ _ _ _ _ _ _ _ _) hS hl.1 rfl mw_0 k_9_108 k_9_110 k_s_98 k_1_12 k_9_111 hv_MM_hex rfl rfl ⟨(Nat.le_of_ble_eq_true rfl), (Nat.le_of_ble_eq_true rfl)⟩ rfl (Nat.le_of_ble_eq_true rfl) ⟨Nat.zero_le _, Nat.zero_le _⟩ rfl d_MM_unicode_12 (fun H locs hP hS => ?_)
    cases h
    exact o_ri C hP hS d_MM_unicode_15
set_option maxHeartbeats 4000000 in
set_option maxRecDepth 100000 in
theorem f_MM_unicode_b30_b {E : (Nat → Prop) → State → Heap → Prop} {p : Program} {l : Launch} {e : Env} {s : State} {m : MethodId} {args : Array Value} {below : List Frame} {meth : Method} {c : Code} {D : va_G} {ad kd sd vd xd : Nat → Nat} {ca : Nat → ClassId} {A : Nat → Prop} {ky ty : Nat → Option Nat} {Q : State → Prop} (hE : o_EK E kd sd vd xd) (hKy : m_KY ky ty sd) (C : o_Cx E p s m args meth c D m_cls (m_tys ca) "SchemaJudgeModel" b_MM_unicode (some .int) 3 cc_MM_unicode A) (hDD : ∀ (rt : Nat) (Ni : SNI) (Np : SNP) (No : SNO) (Nx : SNX) (Nf : SNF) (Na : SNA) (Nh : SNH) (Nq : SNQ) (Nj : SNJ) (M0 : SMT) (M1 : SMT), va_D A (m_cw ad ca ky ty rt Ni Np No Nx Nf Na Nh Nq Nj M0 M1)) (n : Nat) (u30_tc : SMT) (u30_Ni : SNI) (u30_No : SNO) (u30_Nx : SNX) (u30_Nf : SNF) (u30_Na : SNA) (u30_Nh : SNH) (u30_Nq : SNQ) (u30_Nj : SNJ) (u30_M0 : SMT) (z : Int32 × Int32 × SNP) (q : Nat × Int32 × Int32 × SNP) (h : m_MM_unicode_b30 n u30_tc z = some q) (h0 : q.1 = 0 → o_At p l e rm_MM_unicode s m args below meth c Q m_cls D A 3 30 [] (m_cw ad ca ky ty 48 u30_Ni q.2.2.2 u30_No u30_Nx u30_Nf u30_Na u30_Nh u30_Nq u30_Nj u30_M0 u30_tc) [(0, .ref (ad 0)), (1, .int q.2.1), (2, .int q.2.2.1)]) (h1 : q.1 ≠ 0 → (if q.1 = 1 then o_At p l e rm_MM_unicode s m args below meth c Q m_cls D A 3 70 [] (m_cw ad ca ky ty 48 u30_Ni q.2.2.2 u30_No u30_Nx u30_Nf u30_Na u30_Nh u30_Nq u30_Nj u30_M0 u30_tc) [(0, .ref (ad 0))] else o_At p l e rm_MM_unicode s m args below meth c Q m_cls D A 3 93 [] (m_cw ad ca ky ty 48 u30_Ni q.2.2.2 u30_No u30_Nx u30_Nf u30_Na u30_Nh u30_Nq u30_Nj u30_M0 u30_tc) [(0, .ref (ad 0)), (1, .int q.2.1), (2, .int q.2.2.1)])) : o_At p l e rm_MM_unicode s m args below meth c Q m_cls D A 3 30 [] (m_cw ad ca ky ty 48 u30_Ni z.2.2 u30_No u30_Nx u30_Nf u30_Na u30_Nh u30_Nq u30_Nj u30_M0 u30_tc) [(0, .ref (ad 0)), (1, .int z.1), (2, .int z.2.1)] := by
  unfold m_MM_unicode_b30 at h
  intro H locs ls hP hS hl
  have C0 := C
  obtain ⟨hx, hb, -, -, -, hown, hts, hK, -, -⟩ := C0
  refine lv_aload_n hx hb d_MM_unicode_30 rfl (lv_at hl 0 rfl) ?_
  refine lv_iconst (v := (0:Int32)) hx hb d_MM_unicode_31 (by decide) ?_
  obtain ⟨q2, hq2, h⟩ := o_bd_some h
  refine o_V (st1 := [.int q2]) (w1 := (m_cw ad ca ky ty 48 u30_Ni z.2.2 u30_No u30_Nx u30_Nf u30_Na u30_Nh u30_Nq u30_Nj u30_M0 u30_tc)) hE.1 C (e_MM_p_b hE hKy l (0:Int32) u30_tc z.2.2 u30_Ni u30_No u30_Nx u30_Nf u30_Na u30_Nh u30_Nq u30_Nj u30_M0 hq2) hP (hDD _ _ _ _ _ _ _ _ _ _ _ _) hS hl.1 rfl mw_0 k_9_70 k_9_72 k_s_89 k_1_12 k_9_73 hv_MM_p rfl rfl ⟨(Nat.le_of_ble_eq_true rfl), (Nat.le_of_ble_eq_true rfl)⟩ rfl (Nat.le_of_ble_eq_true rfl) ⟨Nat.zero_le _, Nat.zero_le _⟩ rfl d_MM_unicode_32 (fun H locs hP hS => ?_)
  refine lv_if_lt (tgt := 93) hx hb d_MM_unicode_35 (by decide) (fun c2 => ?_) (fun c2 => ?_)
  · replace h := o_tt c2 h
    cases h
    exact h1 (Nat.succ_ne_zero 1) _ _ _ hP hS (lv_sub hl [0, 1, 2] rfl)
  · replace h := o_ff c2 h
    refine lv_aload_n hx hb d_MM_unicode_38 rfl (lv_at hl 0 rfl) ?_
    refine lv_iconst (v := (0:Int32)) hx hb d_MM_unicode_39 (by decide) ?_
    obtain ⟨q3, hq3, h⟩ := o_bd_some h
    refine o_V (st1 := [.int q3]) (w1 := (m_cw ad ca ky ty 48 u30_Ni z.2.2 u30_No u30_Nx u30_Nf u30_Na u30_Nh u30_Nq u30_Nj u30_M0 u30_tc)) hE.1 C (e_MM_p_b hE hKy l (0:Int32) u30_tc z.2.2 u30_Ni u30_No u30_Nx u30_Nf u30_Na u30_Nh u30_Nq u30_Nj u30_M0 hq3) hP (hDD _ _ _ _ _ _ _ _ _ _ _ _) hS hl.1 rfl mw_0 k_9_70 k_9_72 k_s_89 k_1_12 k_9_73 hv_MM_p rfl rfl ⟨(Nat.le_of_ble_eq_true rfl), (Nat.le_of_ble_eq_true rfl)⟩ rfl (Nat.le_of_ble_eq_true rfl) ⟨Nat.zero_le _, Nat.zero_le _⟩ rfl d_MM_unicode_40 (fun H locs hP hS => ?_)
    obtain ⟨q4, hq4, h⟩ := o_bd_some h
    refine o_S (st1 := [.int q4]) (w1 := (m_cw ad ca ky ty 48 u30_Ni z.2.2 u30_No u30_Nx u30_Nf u30_Na u30_Nh u30_Nq u30_Nj u30_M0 u30_tc)) hE.1 C (e_MT_hex hE hKy l q3 u30_Ni z.2.2 u30_No u30_Nx u30_Nf u30_Na u30_Nh u30_Nq u30_Nj u30_M0 u30_tc 48 hq4) hP (hDD _ _ _ _ _ _ _ _ _ _ _ _) hS hl.1 k_9_112 k_8_233 k_1_13 k_8_234 hs_MT_hex rfl rfl ⟨(Nat.le_of_ble_eq_true rfl), (Nat.le_of_ble_eq_true rfl)⟩ rfl (Nat.le_of_ble_eq_true rfl) ⟨Nat.zero_le _, Nat.zero_le _⟩ rfl d_MM_unicode_43 (fun H locs hP hS => ?_)
    refine lv_if_lt (tgt := 93) hx hb d_MM_unicode_46 (by decide) (fun c3 => ?_) (fun c3 => ?_)
    · replace h := o_tt c3 h
      cases h
      exact h1 (Nat.succ_ne_zero 1) _ _ _ hP hS (lv_sub hl [0, 1, 2] rfl)
    · replace h := o_ff c3 h
      refine lv_bipush (v := (16:Int32)) hx hb d_MM_unicode_49 (by decide) ?_
      refine lv_iload_n hx hb d_MM_unicode_51 rfl (lv_at hl 1 rfl) ?_
      refine lv_imul hx hb d_MM_unicode_52 ?_
      refine lv_aload_n hx hb d_MM_unicode_53 rfl (lv_at hl 0 rfl) ?_
      refine lv_iconst (v := (0:Int32)) hx hb d_MM_unicode_54 (by decide) ?_
      obtain ⟨q5, hq5, h⟩ := o_bd_some h
      refine o_V (st1 := [.int q5, .int ((16:Int32) * z.1)]) (w1 := (m_cw ad ca ky ty 48 u30_Ni z.2.2 u30_No u30_Nx u30_Nf u30_Na u30_Nh u30_Nq u30_Nj u30_M0 u30_tc)) hE.1 C (e_MM_p_b hE hKy l (0:Int32) u30_tc z.2.2 u30_Ni u30_No u30_Nx u30_Nf u30_Na u30_Nh u30_Nq u30_Nj u30_M0 hq5) hP (hDD _ _ _ _ _ _ _ _ _ _ _ _) hS hl.1 rfl mw_0 k_9_70 k_9_72 k_s_89 k_1_12 k_9_73 hv_MM_p rfl rfl ⟨(Nat.le_of_ble_eq_true rfl), (Nat.le_of_ble_eq_true rfl)⟩ rfl (Nat.le_of_ble_eq_true rfl) ⟨Nat.zero_le _, Nat.zero_le _⟩ rfl d_MM_unicode_55 (fun H locs hP hS => ?_)
      obtain ⟨q6, hq6, h⟩ := o_bd_some h
      refine o_S (st1 := [.int q6, .int ((16:Int32) * z.1)]) (w1 := (m_cw ad ca ky ty 48 u30_Ni z.2.2 u30_No u30_Nx u30_Nf u30_Na u30_Nh u30_Nq u30_Nj u30_M0 u30_tc)) hE.1 C (e_MT_hex hE hKy l q5 u30_Ni z.2.2 u30_No u30_Nx u30_Nf u30_Na u30_Nh u30_Nq u30_Nj u30_M0 u30_tc 48 hq6) hP (hDD _ _ _ _ _ _ _ _ _ _ _ _) hS hl.1 k_9_112 k_8_233 k_1_13 k_8_234 hs_MT_hex rfl rfl ⟨(Nat.le_of_ble_eq_true rfl), (Nat.le_of_ble_eq_true rfl)⟩ rfl (Nat.le_of_ble_eq_true rfl) ⟨Nat.zero_le _, Nat.zero_le _⟩ rfl d_MM_unicode_58 (fun H locs hP hS => ?_)
      refine lv_iadd hx hb d_MM_unicode_61 ?_
      refine lv_topi (fun x1_62 ex1_62 => ?_)
      replace h := o_nm_at ex1_62 h
      refine lv_istore_n (lv' := [(1, .int x1_62), (0, .ref (ad 0)), (2, .int z.2.1)]) hx hb d_MM_unicode_62 rfl hl (by decide) rfl (fun ls hl => ?_)
      refine lv_iload_n hx hb d_MM_unicode_63 rfl (lv_at hl 0 rfl) ?_
      refine lv_ldcw (v := (1114111:Int32)) hx hb hown (hts _ k_9_107) d_MM_unicode_64 ?_
      refine lv_icmp_le (tgt := 77) hx hb d_MM_unicode_67 (by decide) (fun c4 => ?_) (fun c4 => ?_)
      · replace h := o_tt c4 h
        refine lv_aload_n hx hb d_MM_unicode_77 rfl (lv_at hl 1 rfl) ?_
        refine lv_dup hx hb d_MM_unicode_78 rfl ?_
        refine o_get (v := .int (NP_pat z.2.2)) C in_MM hP 0 mw_0 rfl 27 (by decide) k_8_17 rfl rfl d_MM_unicode_79 ?_
        refine lv_iconst (v := (1:Int32)) hx hb d_MM_unicode_82 (by decide) ?_
        refine lv_iadd hx hb d_MM_unicode_83 ?_
        refine o_put (v := .int ((NP_pat z.2.2) + (1:Int32))) (ty := .int) (w1 := (m_cw ad ca ky ty 48 u30_Ni (NP_mk (NP_nodeKind z.2.2) (NP_nodeA z.2.2) (NP_nodeB z.2.2) (NP_nodeC z.2.2) (NP_nodeNext z.2.2) (NP_low z.2.2) (NP_high z.2.2) (NP_setFrom z.2.2) (NP_setTo z.2.2) (NP_setNot z.2.2) (NP_nodes z.2.2) (NP_sets z.2.2) (NP_ranges z.2.2) ((NP_pat z.2.2) + (1:Int32)) (NP_patEnd z.2.2) (NP_broken z.2.2)) u30_No u30_Nx u30_Nf u30_Na u30_Nh u30_Nq u30_Nj u30_M0 u30_tc)) C in_MM t_MM t_MM_ok n_MM hP (hDD _ _ _ _ _ _ _ _ _ _ _ _) hS 0 mw_0 rfl 27 (by decide) k_8_17 rfl rfl (by decide +kernel) rfl rfl (Nat.le_of_ble_eq_true rfl) rfl d_MM_unicode_84 (fun H locs hP hS => ?_)
        obtain ⟨x2_87, ex2_87⟩ : ∃ y : Int32, y = z.2.1 + (1:Int32) := ⟨_, rfl⟩
        replace h := o_nm_at ex2_87 h
        refine lv_iinc (v := x2_87) (lv' := [(2, .int x2_87), (1, .int x1_62), (0, .ref (ad 0))]) hx hb d_MM_unicode_87 hl (k := 2) rfl (by rw [ex2_87]; rfl) (by decide) rfl (fun ls hl => ?_)
        refine lv_goto (tgt := 30) hx hb d_MM_unicode_90 (by decide) ?_
        cases h
        exact h0 rfl _ _ _ hP hS (lv_sub hl [2, 1, 0] rfl)
      · replace h := o_ff c4 h
        cases h
        exact h1 (Nat.succ_ne_zero 0) _ _ _ hP hS (lv_sub hl [1] rfl)
set_option maxHeartbeats 4000000 in
set_option maxRecDepth 100000 in
theorem f_MM_unicode_j93_b {E : (Nat → Prop) → State → Heap → Prop} {p : Program} {l : Launch} {e : Env} {s : State} {m : MethodId} {args : Array Value} {below : List Frame} {meth : Method} {c : Code} {D : va_G} {ad kd sd vd xd : Nat → Nat} {ca : Nat → ClassId} {A : Nat → Prop} {ky ty : Nat → Option Nat} (hE : o_EK E kd sd vd xd) (hKy : m_KY ky ty sd) (C : o_Cx E p s m args meth c D m_cls (m_tys ca) "SchemaJudgeModel" b_MM_unicode (some .int) 3 cc_MM_unicode A) (hDD : ∀ (rt : Nat) (Ni : SNI) (Np : SNP) (No : SNO) (Nx : SNX) (Nf : SNF) (Na : SNA) (Nh : SNH) (Nq : SNQ) (Nj : SNJ) (M0 : SMT) (M1 : SMT), va_D A (m_cw ad ca ky ty rt Ni Np No Nx Nf Na Nh Nq Nj M0 M1)) (n : Nat) (x1 : Int32) (x2 : Int32) (tc : SMT) (Np : SNP) (Ni : SNI) (No : SNO) (Nx : SNX) (Nf : SNF) (Na : SNA) (Nh : SNH) (Nq : SNQ) (Nj : SNJ) (M0 : SMT) {r : Int32 × SNP} (h : m_MM_unicode_j93 n x1 x2 tc Np = some r) : o_At p l e rm_MM_unicode s m args below meth c (MQ below (o_Qx D m_cls (some (.int r.1)) (m_cw ad ca ky ty 48 Ni r.2 No Nx Nf Na Nh Nq Nj M0 tc) A) args s 0 0 A) m_cls D A 3 93 [] (m_cw ad ca ky ty 48 Ni Np No Nx Nf Na Nh Nq Nj M0 tc) [(0, .ref (ad 0)), (1, .int x1), (2, .int x2)] := by
  unfold m_MM_unicode_j93 at h
  intro H locs ls hP hS hl
  have C0 := C
  obtain ⟨hx, hb, -, -, -, hown, hts, hK, -, -⟩ := C0
  refine lv_iload_n hx hb d_MM_unicode_93 rfl (lv_at hl 2 rfl) ?_
  refine lv_if_eq (tgt := 107) hx hb d_MM_unicode_94 (by decide) (fun c5 => ?_) (fun c5 => ?_)
  · replace h := o_tt c5 h
    refine lv_aload_n hx hb d_MM_unicode_107 rfl (lv_at hl 0 rfl) ?_
    refine lv_iconst (v := (1:Int32)) hx hb d_MM_unicode_108 (by decide) ?_
    refine o_put (v := .int (1:Int32)) (ty := .boolean) (w1 := (m_cw ad ca ky ty 48 Ni (NP_mk (NP_nodeKind Np) (NP_nodeA Np) (NP_nodeB Np) (NP_nodeC Np) (NP_nodeNext Np) (NP_low Np) (NP_high Np) (NP_setFrom Np) (NP_setTo Np) (NP_setNot Np) (NP_nodes Np) (NP_sets Np) (NP_ranges Np) (NP_pat Np) (NP_patEnd Np) (1:Int32)) No Nx Nf Na Nh Nq Nj M0 tc)) C in_MM t_MM t_MM_ok n_MM hP (hDD _ _ _ _ _ _ _ _ _ _ _ _) hS 0 mw_0 rfl 32 (by decide) k_8_22 rfl rfl (by decide +kernel) rfl rfl (Nat.le_of_ble_eq_true rfl) rfl d_MM_unicode_109 (fun H locs hP hS => ?_)
    refine lv_iconst (v := (0:Int32)) hx hb d_MM_unicode_112 (by decide) ?_
    cases h
    exact o_ri (v := (0:Int32)) C hP hS d_MM_unicode_113
  · replace h := o_ff c5 h
    refine lv_aload_n hx hb d_MM_unicode_97 rfl (lv_at hl 0 rfl) ?_
    refine lv_iconst (v := (0:Int32)) hx hb d_MM_unicode_98 (by decide) ?_
    obtain ⟨q8, hq8, h⟩ := o_bd_some h
    refine o_V (st1 := [.int q8]) (w1 := (m_cw ad ca ky ty 48 Ni Np No Nx Nf Na Nh Nq Nj M0 tc)) hE.1 C (e_MM_p_b hE hKy l (0:Int32) tc Np Ni No Nx Nf Na Nh Nq Nj M0 hq8) hP (hDD _ _ _ _ _ _ _ _ _ _ _ _) hS hl.1 rfl mw_0 k_9_70 k_9_72 k_s_89 k_1_12 k_9_73 hv_MM_p rfl rfl ⟨(Nat.le_of_ble_eq_true rfl), (Nat.le_of_ble_eq_true rfl)⟩ rfl (Nat.le_of_ble_eq_true rfl) ⟨Nat.zero_le _, Nat.zero_le _⟩ rfl d_MM_unicode_99 (fun H locs hP hS => ?_)
    refine lv_bipush (v := (125:Int32)) hx hb d_MM_unicode_102 (by decide) ?_
    refine lv_icmp_eq (tgt := 114) hx hb d_MM_unicode_104 (by decide) (fun c6 => ?_) (fun c6 => ?_)
    · replace h := o_tt c6 h
      refine lv_aload_n hx hb d_MM_unicode_114 rfl (lv_at hl 0 rfl) ?_
      refine lv_dup hx hb d_MM_unicode_115 rfl ?_
      refine o_get (v := .int (NP_pat Np)) C in_MM hP 0 mw_0 rfl 27 (by decide) k_8_17 rfl rfl d_MM_unicode_116 ?_
      refine lv_iconst (v := (1:Int32)) hx hb d_MM_unicode_119 (by decide) ?_
      refine lv_iadd hx hb d_MM_unicode_120 ?_
      refine o_put (v := .int ((NP_pat Np) + (1:Int32))) (ty := .int) (w1 := (m_cw ad ca ky ty 48 Ni (NP_mk (NP_nodeKind Np) (NP_nodeA Np) (NP_nodeB Np) (NP_nodeC Np) (NP_nodeNext Np) (NP_low Np) (NP_high Np) (NP_setFrom Np) (NP_setTo Np) (NP_setNot Np) (NP_nodes Np) (NP_sets Np) (NP_ranges Np) ((NP_pat Np) + (1:Int32)) (NP_patEnd Np) (NP_broken Np)) No Nx Nf Na Nh Nq Nj M0 tc)) C in_MM t_MM t_MM_ok n_MM hP (hDD _ _ _ _ _ _ _ _ _ _ _ _) hS 0 mw_0 rfl 27 (by decide) k_8_17 rfl rfl (by decide +kernel) rfl rfl (Nat.le_of_ble_eq_true rfl) rfl d_MM_unicode_121 (fun H locs hP hS => ?_)
      refine lv_iload_n hx hb d_MM_unicode_124 rfl (lv_at hl 1 rfl) ?_
      cases h
      exact o_ri C hP hS d_MM_unicode_125
    · replace h := o_ff c6 h
      refine lv_aload_n hx hb d_MM_unicode_107 rfl (lv_at hl 0 rfl) ?_
      refine lv_iconst (v := (1:Int32)) hx hb d_MM_unicode_108 (by decide) ?_
      refine o_put (v := .int (1:Int32)) (ty := .boolean) (w1 := (m_cw ad ca ky ty 48 Ni (NP_mk (NP_nodeKind Np) (NP_nodeA Np) (NP_nodeB Np) (NP_nodeC Np) (NP_nodeNext Np) (NP_low Np) (NP_high Np) (NP_setFrom Np) (NP_setTo Np) (NP_setNot Np) (NP_nodes Np) (NP_sets Np) (NP_ranges Np) (NP_pat Np) (NP_patEnd Np) (1:Int32)) No Nx Nf Na Nh Nq Nj M0 tc)) C in_MM t_MM t_MM_ok n_MM hP (hDD _ _ _ _ _ _ _ _ _ _ _ _) hS 0 mw_0 rfl 32 (by decide) k_8_22 rfl rfl (by decide +kernel) rfl rfl (Nat.le_of_ble_eq_true rfl) rfl d_MM_unicode_109 (fun H locs hP hS => ?_)
      refine lv_iconst (v := (0:Int32)) hx hb d_MM_unicode_112 (by decide) ?_
      cases h
      exact o_ri (v := (0:Int32)) C hP hS d_MM_unicode_113
set_option maxHeartbeats 4000000 in
set_option maxRecDepth 100000 in
theorem e_MM_unicode_b {E : (Nat → Prop) → State → Heap → Prop} {D : va_G} {ad kd sd vd xd : Nat → Nat} {ca : Nat → ClassId} {ky ty : Nat → Option Nat} (hE : o_EK E kd sd vd xd) (hKy : m_KY ky ty sd) (l : Launch) (n : Nat)  (tc : SMT) (Np : SNP) (Ni : SNI) (No : SNO) (Nx : SNX) (Nf : SNF) (Na : SNA) (Nh : SNH) (Nq : SNQ) (Nj : SNJ) (M0 : SMT) {r : Int32 × SNP} (h : m_MM_unicode n tc Np = some r) : o_Cn E l D m_cls (m_tys ca) y_MM_unicode cc_MM_unicode rm_MM_unicode [.ref (ad 0)] (m_cw ad ca ky ty 48 Ni Np No Nx Nf Na Nh Nq Nj M0 tc) (m_cw ad ca ky ty 48 Ni r.2 No Nx Nf Na Nh Nq Nj M0 tc) (some (.int r.1)) := by
  refine o_Cn_of (by decide) (Nat.le_of_ble_eq_true rfl) ?_
  intro p e s m below meth c A ls C hD hP hS hl
  have hDD : ∀ (rt : Nat) (Ni : SNI) (Np : SNP) (No : SNO) (Nx : SNX) (Nf : SNF) (Na : SNA) (Nh : SNH) (Nq : SNQ) (Nj : SNJ) (M0 : SMT) (M1 : SMT), va_D A (m_cw ad ca ky ty rt Ni Np No Nx Nf Na Nh Nq Nj M0 M1) := fun _ _ _ _ _ _ _ _ _ _ _ _ => o_D_map hD rfl
  have hl : lv_has ls 3 [(0, .ref (ad 0))] := hl
  unfold m_MM_unicode at h
  have C0 := C
  obtain ⟨hx, hb, -, -, -, hown, hts, hK, -, -⟩ := C0
  refine lv_aload_n hx hb d_MM_unicode_0 rfl (lv_at hl 0 rfl) ?_
  refine lv_iconst (v := (0:Int32)) hx hb d_MM_unicode_1 (by decide) ?_
  obtain ⟨q1, hq1, h⟩ := o_bd_some h
  refine o_V (st1 := [.int q1]) (w1 := (m_cw ad ca ky ty 48 Ni Np No Nx Nf Na Nh Nq Nj M0 tc)) hE.1 C (e_MM_p_b hE hKy l (0:Int32) tc Np Ni No Nx Nf Na Nh Nq Nj M0 hq1) hP (hDD _ _ _ _ _ _ _ _ _ _ _ _) hS hl.1 rfl mw_0 k_9_70 k_9_72 k_s_89 k_1_12 k_9_73 hv_MM_p rfl rfl ⟨(Nat.le_of_ble_eq_true rfl), (Nat.le_of_ble_eq_true rfl)⟩ rfl (Nat.le_of_ble_eq_true rfl) ⟨Nat.zero_le _, Nat.zero_le _⟩ rfl d_MM_unicode_2 (fun H locs hP hS => ?_)
  refine lv_bipush (v := (123:Int32)) hx hb d_MM_unicode_5 (by decide) ?_
  refine lv_icmp_eq (tgt := 16) hx hb d_MM_unicode_7 (by decide) (fun c1 => ?_) (fun c1 => ?_)
  · replace h := o_tt c1 h
    refine lv_aload_n hx hb d_MM_unicode_16 rfl (lv_at hl 0 rfl) ?_
    refine lv_dup hx hb d_MM_unicode_17 rfl ?_
    refine o_get (v := .int (NP_pat Np)) C in_MM hP 0 mw_0 rfl 27 (by decide) k_8_17 rfl rfl d_MM_unicode_18 ?_
    refine lv_iconst (v := (1:Int32)) hx hb d_MM_unicode_21 (by decide) ?_
    refine lv_iadd hx hb d_MM_unicode_22 ?_
    refine o_put (v := .int ((NP_pat Np) + (1:Int32))) (ty := .int) (w1 := (m_cw ad ca ky ty 48 Ni (NP_mk (NP_nodeKind Np) (NP_nodeA Np) (NP_nodeB Np) (NP_nodeC Np) (NP_nodeNext Np) (NP_low Np) (NP_high Np) (NP_setFrom Np) (NP_setTo Np) (NP_setNot Np) (NP_nodes Np) (NP_sets Np) (NP_ranges Np) ((NP_pat Np) + (1:Int32)) (NP_patEnd Np) (NP_broken Np)) No Nx Nf Na Nh Nq Nj M0 tc)) C in_MM t_MM t_MM_ok n_MM hP (hDD _ _ _ _ _ _ _ _ _ _ _ _) hS 0 mw_0 rfl 27 (by decide) k_8_17 rfl rfl (by decide +kernel) rfl rfl (Nat.le_of_ble_eq_true rfl) rfl d_MM_unicode_23 (fun H locs hP hS => ?_)
    refine lv_iconst (v := (0:Int32)) hx hb d_MM_unicode_26 (by decide) ?_
    refine lv_istore_n (lv' := [(1, .int (0:Int32)), (0, .ref (ad 0))]) hx hb d_MM_unicode_27 rfl hl (by decide) rfl (fun ls hl => ?_)
    refine lv_iconst (v := (0:Int32)) hx hb d_MM_unicode_28 (by decide) ?_
    refine lv_istore_n (lv' := [(2, .int (0:Int32)), (1, .int (0:Int32)), (0, .ref (ad 0))]) hx hb d_MM_unicode_29 rfl hl (by decide) rfl (fun ls hl => ?_)
    obtain ⟨q7, hq7, h⟩ := o_bd_some h
    refine o_sim2 (AH := fun zz => o_At p l e rm_MM_unicode s m _ below meth c _ m_cls D A 3 30 [] (m_cw ad ca ky ty 48 Ni zz.2.2 No Nx Nf Na Nh Nq Nj M0 tc) [(0, .ref (ad 0)), (1, .int zz.1), (2, .int zz.2.1)]) (AX := fun qq => if qq.1 = 1 then o_At p l e rm_MM_unicode s m _ below meth c _ m_cls D A 3 70 [] (m_cw ad ca ky ty 48 Ni qq.2.2.2 No Nx Nf Na Nh Nq Nj M0 tc) [(0, .ref (ad 0))] else o_At p l e rm_MM_unicode s m _ below meth c _ m_cls D A 3 93 [] (m_cw ad ca ky ty 48 Ni qq.2.2.2 No Nx Nf Na Nh Nq Nj M0 tc) [(0, .ref (ad 0)), (1, .int qq.2.1), (2, .int qq.2.2.1)]) (fun zz qq h h0 h1 => f_MM_unicode_b30_b hE hKy C hDD n tc Ni No Nx Nf Na Nh Nq Nj M0 zz qq h h0 h1) n _ q7 hq7 ?_ _ _ _ hP hS (lv_sub hl [2, 1, 0] rfl)
    by_cases c7 : q7.1 = 1
    · replace h := o_tt c7 h
      refine o_ip c7 ?_
      intro H locs ls hP hS hl
      refine lv_aload_n hx hb d_MM_unicode_70 rfl (lv_at hl 0 rfl) ?_
      refine lv_iconst (v := (1:Int32)) hx hb d_MM_unicode_71 (by decide) ?_
      refine o_put (v := .int (1:Int32)) (ty := .boolean) (w1 := (m_cw ad ca ky ty 48 Ni (NP_mk (NP_nodeKind q7.2.2.2) (NP_nodeA q7.2.2.2) (NP_nodeB q7.2.2.2) (NP_nodeC q7.2.2.2) (NP_nodeNext q7.2.2.2) (NP_low q7.2.2.2) (NP_high q7.2.2.2) (NP_setFrom q7.2.2.2) (NP_setTo q7.2.2.2) (NP_setNot q7.2.2.2) (NP_nodes q7.2.2.2) (NP_sets q7.2.2.2) (NP_ranges q7.2.2.2) (NP_pat q7.2.2.2) (NP_patEnd q7.2.2.2) (1:Int32)) No Nx Nf Na Nh Nq Nj M0 tc)) C in_MM t_MM t_MM_ok n_MM hP (hDD _ _ _ _ _ _ _ _ _ _ _ _) hS 0 mw_0 rfl 32 (by decide) k_8_22 rfl rfl (by decide +kernel) rfl rfl (Nat.le_of_ble_eq_true rfl) rfl d_MM_unicode_72 (fun H locs hP hS => ?_)
      refine lv_iconst (v := (0:Int32)) hx hb d_MM_unicode_75 (by decide) ?_
      cases h
      exact o_ri (v := (0:Int32)) C hP hS d_MM_unicode_76
    replace h := o_ff c7 h
    refine o_in_ c7 ?_
    intro H locs ls hP hS hl
    exact f_MM_unicode_j93_b hE hKy C hDD n q7.2.1 q7.2.2.1 tc q7.2.2.2 Ni No Nx Nf Na Nh Nq Nj M0 h _ _ _ hP hS (lv_sub hl [0, 1, 2] rfl)
  · replace h := o_ff c1 h
    refine lv_aload_n hx hb d_MM_unicode_10 rfl (lv_at hl 0 rfl) ?_
    refine lv_iconst (v := (4:Int32)) hx hb d_MM_unicode_11 (by decide) ?_
    obtain ⟨q9, hq9, h⟩ := o_bd_some h
    refine o_V (st1 := [.int q9.1]) (w1 := (m_cw ad ca ky ty 48 Ni q9.2 No Nx Nf Na Nh Nq Nj M0 tc)) hE.1 C (e_MM_hex_b hE hKy l n (4:Int32) tc Np Ni No Nx Nf Na Nh Nq Nj M0 hq9) hP (hDD _ _ _ _ _ _ _ _ _ _ _ _) hS hl.1 rfl mw_0 k_9_108 k_9_110 k_s_98 k_1_12 k_9_111 hv_MM_hex rfl rfl ⟨(Nat.le_of_ble_eq_true rfl), (Nat.le_of_ble_eq_true rfl)⟩ rfl (Nat.le_of_ble_eq_true rfl) ⟨Nat.zero_le _, Nat.zero_le _⟩ rfl d_MM_unicode_12 (fun H locs hP hS => ?_)
    cases h
    exact o_ri C hP hS d_MM_unicode_15
set_option maxHeartbeats 4000000 in
set_option maxRecDepth 100000 in
theorem e_MM_escape_a {E : (Nat → Prop) → State → Heap → Prop} {D : va_G} {ad kd sd vd xd : Nat → Nat} {ca : Nat → ClassId} {ky ty : Nat → Option Nat} (hE : o_EK E kd sd vd xd) (hKy : m_KY ky ty sd) (l : Launch) (n : Nat) (x1 : Int32) (tc : SMT) (Np : SNP) (Ni : SNI) (No : SNO) (Nx : SNX) (Nf : SNF) (Na : SNA) (Nh : SNH) (Nq : SNQ) (Nj : SNJ) (M1 : SMT) {r : Int32 × SNP} (h : m_MM_escape n x1 tc Np = some r) : o_Cn E l D m_cls (m_tys ca) y_MM_escape cc_MM_escape rm_MM_escape [.ref (ad 0), .int x1] (m_cw ad ca ky ty 33 Ni Np No Nx Nf Na Nh Nq Nj tc M1) (m_cw ad ca ky ty 33 Ni r.2 No Nx Nf Na Nh Nq Nj tc M1) (some (.int r.1)) := by
  refine o_Cn_of (by decide) (Nat.le_of_ble_eq_true rfl) ?_
  intro p e s m below meth c A ls C hD hP hS hl
  have hDD : ∀ (rt : Nat) (Ni : SNI) (Np : SNP) (No : SNO) (Nx : SNX) (Nf : SNF) (Na : SNA) (Nh : SNH) (Nq : SNQ) (Nj : SNJ) (M0 : SMT) (M1 : SMT), va_D A (m_cw ad ca ky ty rt Ni Np No Nx Nf Na Nh Nq Nj M0 M1) := fun _ _ _ _ _ _ _ _ _ _ _ _ => o_D_map hD rfl
  have hl : lv_has ls 3 [(0, .ref (ad 0)), (1, .int x1)] := hl
  unfold m_MM_escape at h
  have C0 := C
  obtain ⟨hx, hb, -, -, -, hown, hts, hK, -, -⟩ := C0
  refine lv_aload_n hx hb d_MM_escape_0 rfl (lv_at hl 0 rfl) ?_
  refine lv_iconst (v := (0:Int32)) hx hb d_MM_escape_1 (by decide) ?_
  obtain ⟨q1, hq1, h⟩ := o_bd_some h
  refine o_V (st1 := [.int q1]) (w1 := (m_cw ad ca ky ty 33 Ni Np No Nx Nf Na Nh Nq Nj tc M1)) hE.1 C (e_MM_p_a hE hKy l (0:Int32) tc Np Ni No Nx Nf Na Nh Nq Nj M1 hq1) hP (hDD _ _ _ _ _ _ _ _ _ _ _ _) hS hl.1 rfl mw_0 k_9_70 k_9_72 k_s_89 k_1_12 k_9_73 hv_MM_p rfl rfl ⟨(Nat.le_of_ble_eq_true rfl), (Nat.le_of_ble_eq_true rfl)⟩ rfl (Nat.le_of_ble_eq_true rfl) ⟨Nat.zero_le _, Nat.zero_le _⟩ rfl d_MM_escape_2 (fun H locs hP hS => ?_)
  refine lv_istore_n (lv' := [(2, .int q1), (0, .ref (ad 0)), (1, .int x1)]) hx hb d_MM_escape_5 rfl hl (by decide) rfl (fun ls hl => ?_)
  refine lv_aload_n hx hb d_MM_escape_6 rfl (lv_at hl 1 rfl) ?_
  refine lv_dup hx hb d_MM_escape_7 rfl ?_
  refine o_get (v := .int (NP_pat Np)) C in_MM hP 0 mw_0 rfl 27 (by decide) k_8_17 rfl rfl d_MM_escape_8 ?_
  refine lv_iconst (v := (1:Int32)) hx hb d_MM_escape_11 (by decide) ?_
  refine lv_iadd hx hb d_MM_escape_12 ?_
  refine o_put (v := .int ((NP_pat Np) + (1:Int32))) (ty := .int) (w1 := (m_cw ad ca ky ty 33 Ni (NP_mk (NP_nodeKind Np) (NP_nodeA Np) (NP_nodeB Np) (NP_nodeC Np) (NP_nodeNext Np) (NP_low Np) (NP_high Np) (NP_setFrom Np) (NP_setTo Np) (NP_setNot Np) (NP_nodes Np) (NP_sets Np) (NP_ranges Np) ((NP_pat Np) + (1:Int32)) (NP_patEnd Np) (NP_broken Np)) No Nx Nf Na Nh Nq Nj tc M1)) C in_MM t_MM t_MM_ok n_MM hP (hDD _ _ _ _ _ _ _ _ _ _ _ _) hS 0 mw_0 rfl 27 (by decide) k_8_17 rfl rfl (by decide +kernel) rfl rfl (Nat.le_of_ble_eq_true rfl) rfl d_MM_escape_13 (fun H locs hP hS => ?_)
  refine lv_iload_n hx hb d_MM_escape_16 rfl (lv_at hl 0 rfl) ?_
  by_cases c1 : q1 = (36:Int32)
  · replace h := o_tt c1 h
    refine lv_tableIn (off := 456) (tgt := 473) hx hb d_MM_escape_17 (by rw [c1]; decide) (by rw [c1]; decide) (by rw [c1]; rfl) (by decide) ?_
    refine lv_iload_n hx hb d_MM_escape_473 rfl (lv_at hl 0 rfl) ?_
    cases h
    exact o_ri C hP hS d_MM_escape_474
  replace h := o_ff c1 h
  by_cases c2 : q1 = (37:Int32)
  · replace h := o_tt c2 h
    refine lv_tableIn (off := 458) (tgt := 475) hx hb d_MM_escape_17 (by rw [c2]; decide) (by rw [c2]; decide) (by rw [c2]; rfl) (by decide) ?_
    refine lv_aload_n hx hb d_MM_escape_475 rfl (lv_at hl 1 rfl) ?_
    refine lv_iconst (v := (1:Int32)) hx hb d_MM_escape_476 (by decide) ?_
    refine o_put (v := .int (1:Int32)) (ty := .boolean) (w1 := (m_cw ad ca ky ty 33 Ni (NP_mk (NP_nodeKind Np) (NP_nodeA Np) (NP_nodeB Np) (NP_nodeC Np) (NP_nodeNext Np) (NP_low Np) (NP_high Np) (NP_setFrom Np) (NP_setTo Np) (NP_setNot Np) (NP_nodes Np) (NP_sets Np) (NP_ranges Np) ((NP_pat Np) + (1:Int32)) (NP_patEnd Np) (1:Int32)) No Nx Nf Na Nh Nq Nj tc M1)) C in_MM t_MM t_MM_ok n_MM hP (hDD _ _ _ _ _ _ _ _ _ _ _ _) hS 0 mw_0 rfl 32 (by decide) k_8_22 rfl rfl (by decide +kernel) rfl rfl (Nat.le_of_ble_eq_true rfl) rfl d_MM_escape_477 (fun H locs hP hS => ?_)
    refine lv_iconst (v := (0:Int32)) hx hb d_MM_escape_480 (by decide) ?_
    cases h
    exact o_ri (v := (0:Int32)) C hP hS d_MM_escape_481
  replace h := o_ff c2 h
  by_cases c3 : q1 = (38:Int32)
  · replace h := o_tt c3 h
    refine lv_tableIn (off := 458) (tgt := 475) hx hb d_MM_escape_17 (by rw [c3]; decide) (by rw [c3]; decide) (by rw [c3]; rfl) (by decide) ?_
    refine lv_aload_n hx hb d_MM_escape_475 rfl (lv_at hl 1 rfl) ?_
    refine lv_iconst (v := (1:Int32)) hx hb d_MM_escape_476 (by decide) ?_
    refine o_put (v := .int (1:Int32)) (ty := .boolean) (w1 := (m_cw ad ca ky ty 33 Ni (NP_mk (NP_nodeKind Np) (NP_nodeA Np) (NP_nodeB Np) (NP_nodeC Np) (NP_nodeNext Np) (NP_low Np) (NP_high Np) (NP_setFrom Np) (NP_setTo Np) (NP_setNot Np) (NP_nodes Np) (NP_sets Np) (NP_ranges Np) ((NP_pat Np) + (1:Int32)) (NP_patEnd Np) (1:Int32)) No Nx Nf Na Nh Nq Nj tc M1)) C in_MM t_MM t_MM_ok n_MM hP (hDD _ _ _ _ _ _ _ _ _ _ _ _) hS 0 mw_0 rfl 32 (by decide) k_8_22 rfl rfl (by decide +kernel) rfl rfl (Nat.le_of_ble_eq_true rfl) rfl d_MM_escape_477 (fun H locs hP hS => ?_)
    refine lv_iconst (v := (0:Int32)) hx hb d_MM_escape_480 (by decide) ?_
    cases h
    exact o_ri (v := (0:Int32)) C hP hS d_MM_escape_481
  replace h := o_ff c3 h
  by_cases c4 : q1 = (39:Int32)
  · replace h := o_tt c4 h
    refine lv_tableIn (off := 458) (tgt := 475) hx hb d_MM_escape_17 (by rw [c4]; decide) (by rw [c4]; decide) (by rw [c4]; rfl) (by decide) ?_
    refine lv_aload_n hx hb d_MM_escape_475 rfl (lv_at hl 1 rfl) ?_
    refine lv_iconst (v := (1:Int32)) hx hb d_MM_escape_476 (by decide) ?_
    refine o_put (v := .int (1:Int32)) (ty := .boolean) (w1 := (m_cw ad ca ky ty 33 Ni (NP_mk (NP_nodeKind Np) (NP_nodeA Np) (NP_nodeB Np) (NP_nodeC Np) (NP_nodeNext Np) (NP_low Np) (NP_high Np) (NP_setFrom Np) (NP_setTo Np) (NP_setNot Np) (NP_nodes Np) (NP_sets Np) (NP_ranges Np) ((NP_pat Np) + (1:Int32)) (NP_patEnd Np) (1:Int32)) No Nx Nf Na Nh Nq Nj tc M1)) C in_MM t_MM t_MM_ok n_MM hP (hDD _ _ _ _ _ _ _ _ _ _ _ _) hS 0 mw_0 rfl 32 (by decide) k_8_22 rfl rfl (by decide +kernel) rfl rfl (Nat.le_of_ble_eq_true rfl) rfl d_MM_escape_477 (fun H locs hP hS => ?_)
    refine lv_iconst (v := (0:Int32)) hx hb d_MM_escape_480 (by decide) ?_
    cases h
    exact o_ri (v := (0:Int32)) C hP hS d_MM_escape_481
  replace h := o_ff c4 h
  by_cases c5 : q1 = (40:Int32)
  · replace h := o_tt c5 h
    refine lv_tableIn (off := 456) (tgt := 473) hx hb d_MM_escape_17 (by rw [c5]; decide) (by rw [c5]; decide) (by rw [c5]; rfl) (by decide) ?_
    refine lv_iload_n hx hb d_MM_escape_473 rfl (lv_at hl 0 rfl) ?_
    cases h
    exact o_ri C hP hS d_MM_escape_474
  replace h := o_ff c5 h
  by_cases c6 : q1 = (41:Int32)
  · replace h := o_tt c6 h
    refine lv_tableIn (off := 456) (tgt := 473) hx hb d_MM_escape_17 (by rw [c6]; decide) (by rw [c6]; decide) (by rw [c6]; rfl) (by decide) ?_
    refine lv_iload_n hx hb d_MM_escape_473 rfl (lv_at hl 0 rfl) ?_
    cases h
    exact o_ri C hP hS d_MM_escape_474
  replace h := o_ff c6 h
  by_cases c7 : q1 = (42:Int32)
  · replace h := o_tt c7 h
    refine lv_tableIn (off := 456) (tgt := 473) hx hb d_MM_escape_17 (by rw [c7]; decide) (by rw [c7]; decide) (by rw [c7]; rfl) (by decide) ?_
    refine lv_iload_n hx hb d_MM_escape_473 rfl (lv_at hl 0 rfl) ?_
    cases h
    exact o_ri C hP hS d_MM_escape_474
  replace h := o_ff c7 h
  by_cases c8 : q1 = (43:Int32)
  · replace h := o_tt c8 h
    refine lv_tableIn (off := 456) (tgt := 473) hx hb d_MM_escape_17 (by rw [c8]; decide) (by rw [c8]; decide) (by rw [c8]; rfl) (by decide) ?_
    refine lv_iload_n hx hb d_MM_escape_473 rfl (lv_at hl 0 rfl) ?_
    cases h
    exact o_ri C hP hS d_MM_escape_474
  replace h := o_ff c8 h
  by_cases c9 : q1 = (44:Int32)
  · replace h := o_tt c9 h
    refine lv_tableIn (off := 458) (tgt := 475) hx hb d_MM_escape_17 (by rw [c9]; decide) (by rw [c9]; decide) (by rw [c9]; rfl) (by decide) ?_
    refine lv_aload_n hx hb d_MM_escape_475 rfl (lv_at hl 1 rfl) ?_
    refine lv_iconst (v := (1:Int32)) hx hb d_MM_escape_476 (by decide) ?_
    refine o_put (v := .int (1:Int32)) (ty := .boolean) (w1 := (m_cw ad ca ky ty 33 Ni (NP_mk (NP_nodeKind Np) (NP_nodeA Np) (NP_nodeB Np) (NP_nodeC Np) (NP_nodeNext Np) (NP_low Np) (NP_high Np) (NP_setFrom Np) (NP_setTo Np) (NP_setNot Np) (NP_nodes Np) (NP_sets Np) (NP_ranges Np) ((NP_pat Np) + (1:Int32)) (NP_patEnd Np) (1:Int32)) No Nx Nf Na Nh Nq Nj tc M1)) C in_MM t_MM t_MM_ok n_MM hP (hDD _ _ _ _ _ _ _ _ _ _ _ _) hS 0 mw_0 rfl 32 (by decide) k_8_22 rfl rfl (by decide +kernel) rfl rfl (Nat.le_of_ble_eq_true rfl) rfl d_MM_escape_477 (fun H locs hP hS => ?_)
    refine lv_iconst (v := (0:Int32)) hx hb d_MM_escape_480 (by decide) ?_
    cases h
    exact o_ri (v := (0:Int32)) C hP hS d_MM_escape_481
  replace h := o_ff c9 h
  by_cases c10 : q1 = (45:Int32)
  · replace h := o_tt c10 h
    refine lv_tableIn (off := 444) (tgt := 461) hx hb d_MM_escape_17 (by rw [c10]; decide) (by rw [c10]; decide) (by rw [c10]; rfl) (by decide) ?_
    refine lv_iload_n hx hb d_MM_escape_461 rfl (lv_at hl 2 rfl) ?_
    refine lv_if_ne (tgt := 470) hx hb d_MM_escape_462 (by decide) (fun c11 => ?_) (fun c11 => ?_)
    · replace h := o_ff c11 h
      refine lv_bipush (v := (45:Int32)) hx hb d_MM_escape_470 (by decide) ?_
      cases h
      exact o_ri (v := (45:Int32)) C hP hS d_MM_escape_472
    · replace h := o_tt c11 h
      refine lv_aload_n hx hb d_MM_escape_465 rfl (lv_at hl 1 rfl) ?_
      refine lv_iconst (v := (1:Int32)) hx hb d_MM_escape_466 (by decide) ?_
      refine o_put (v := .int (1:Int32)) (ty := .boolean) (w1 := (m_cw ad ca ky ty 33 Ni (NP_mk (NP_nodeKind Np) (NP_nodeA Np) (NP_nodeB Np) (NP_nodeC Np) (NP_nodeNext Np) (NP_low Np) (NP_high Np) (NP_setFrom Np) (NP_setTo Np) (NP_setNot Np) (NP_nodes Np) (NP_sets Np) (NP_ranges Np) ((NP_pat Np) + (1:Int32)) (NP_patEnd Np) (1:Int32)) No Nx Nf Na Nh Nq Nj tc M1)) C in_MM t_MM t_MM_ok n_MM hP (hDD _ _ _ _ _ _ _ _ _ _ _ _) hS 0 mw_0 rfl 32 (by decide) k_8_22 rfl rfl (by decide +kernel) rfl rfl (Nat.le_of_ble_eq_true rfl) rfl d_MM_escape_467 (fun H locs hP hS => ?_)
      refine lv_bipush (v := (45:Int32)) hx hb d_MM_escape_470 (by decide) ?_
      cases h
      exact o_ri (v := (45:Int32)) C hP hS d_MM_escape_472
  replace h := o_ff c10 h
  by_cases c12 : q1 = (46:Int32)
  · replace h := o_tt c12 h
    refine lv_tableIn (off := 456) (tgt := 473) hx hb d_MM_escape_17 (by rw [c12]; decide) (by rw [c12]; decide) (by rw [c12]; rfl) (by decide) ?_
    refine lv_iload_n hx hb d_MM_escape_473 rfl (lv_at hl 0 rfl) ?_
    cases h
    exact o_ri C hP hS d_MM_escape_474
  replace h := o_ff c12 h
  by_cases c13 : q1 = (47:Int32)
  · replace h := o_tt c13 h
    refine lv_tableIn (off := 456) (tgt := 473) hx hb d_MM_escape_17 (by rw [c13]; decide) (by rw [c13]; decide) (by rw [c13]; rfl) (by decide) ?_
    refine lv_iload_n hx hb d_MM_escape_473 rfl (lv_at hl 0 rfl) ?_
    cases h
    exact o_ri C hP hS d_MM_escape_474
  replace h := o_ff c13 h
  by_cases c14 : q1 = (48:Int32)
  · replace h := o_tt c14 h
    refine lv_tableIn (off := 397) (tgt := 414) hx hb d_MM_escape_17 (by rw [c14]; decide) (by rw [c14]; decide) (by rw [c14]; rfl) (by decide) ?_
    refine lv_aload_n hx hb d_MM_escape_414 rfl (lv_at hl 1 rfl) ?_
    refine lv_iconst (v := (0:Int32)) hx hb d_MM_escape_415 (by decide) ?_
    obtain ⟨q2, hq2, h⟩ := o_bd_some h
    refine o_V (st1 := [.int q2]) (w1 := (m_cw ad ca ky ty 33 Ni (NP_mk (NP_nodeKind Np) (NP_nodeA Np) (NP_nodeB Np) (NP_nodeC Np) (NP_nodeNext Np) (NP_low Np) (NP_high Np) (NP_setFrom Np) (NP_setTo Np) (NP_setNot Np) (NP_nodes Np) (NP_sets Np) (NP_ranges Np) ((NP_pat Np) + (1:Int32)) (NP_patEnd Np) (NP_broken Np)) No Nx Nf Na Nh Nq Nj tc M1)) hE.1 C (e_MM_p_a hE hKy l (0:Int32) tc (NP_mk (NP_nodeKind Np) (NP_nodeA Np) (NP_nodeB Np) (NP_nodeC Np) (NP_nodeNext Np) (NP_low Np) (NP_high Np) (NP_setFrom Np) (NP_setTo Np) (NP_setNot Np) (NP_nodes Np) (NP_sets Np) (NP_ranges Np) ((NP_pat Np) + (1:Int32)) (NP_patEnd Np) (NP_broken Np)) Ni No Nx Nf Na Nh Nq Nj M1 hq2) hP (hDD _ _ _ _ _ _ _ _ _ _ _ _) hS hl.1 rfl mw_0 k_9_70 k_9_72 k_s_89 k_1_12 k_9_73 hv_MM_p rfl rfl ⟨(Nat.le_of_ble_eq_true rfl), (Nat.le_of_ble_eq_true rfl)⟩ rfl (Nat.le_of_ble_eq_true rfl) ⟨Nat.zero_le _, Nat.zero_le _⟩ rfl d_MM_escape_416 (fun H locs hP hS => ?_)
    refine lv_bipush (v := (48:Int32)) hx hb d_MM_escape_419 (by decide) ?_
    refine lv_bipush (v := (57:Int32)) hx hb d_MM_escape_421 (by decide) ?_
    obtain ⟨q3, hq3, h⟩ := o_bd_some h
    refine o_S (st1 := [.int q3]) (w1 := (m_cw ad ca ky ty 33 Ni (NP_mk (NP_nodeKind Np) (NP_nodeA Np) (NP_nodeB Np) (NP_nodeC Np) (NP_nodeNext Np) (NP_low Np) (NP_high Np) (NP_setFrom Np) (NP_setTo Np) (NP_setNot Np) (NP_nodes Np) (NP_sets Np) (NP_ranges Np) ((NP_pat Np) + (1:Int32)) (NP_patEnd Np) (NP_broken Np)) No Nx Nf Na Nh Nq Nj tc M1)) hE.1 C (e_MM_in hE hKy l q2 (48:Int32) (57:Int32) Ni (NP_mk (NP_nodeKind Np) (NP_nodeA Np) (NP_nodeB Np) (NP_nodeC Np) (NP_nodeNext Np) (NP_low Np) (NP_high Np) (NP_setFrom Np) (NP_setTo Np) (NP_setNot Np) (NP_nodes Np) (NP_sets Np) (NP_ranges Np) ((NP_pat Np) + (1:Int32)) (NP_patEnd Np) (NP_broken Np)) No Nx Nf Na Nh Nq Nj tc M1 33 hq3) hP (hDD _ _ _ _ _ _ _ _ _ _ _ _) hS hl.1 k_9_41 k_8_201 k_1_12 k_8_202 hs_MM_in rfl rfl ⟨(Nat.le_of_ble_eq_true rfl), (Nat.le_of_ble_eq_true rfl)⟩ rfl (Nat.le_of_ble_eq_true rfl) ⟨Nat.zero_le _, Nat.zero_le _⟩ rfl d_MM_escape_423 (fun H locs hP hS => ?_)
    refine lv_if_eq (tgt := 434) hx hb d_MM_escape_426 (by decide) (fun c15 => ?_) (fun c15 => ?_)
    · replace h := o_tt c15 h
      refine lv_iconst (v := (0:Int32)) hx hb d_MM_escape_434 (by decide) ?_
      cases h
      exact o_ri (v := (0:Int32)) C hP hS d_MM_escape_435
    · replace h := o_ff c15 h
      refine lv_aload_n hx hb d_MM_escape_429 rfl (lv_at hl 1 rfl) ?_
      refine lv_iconst (v := (1:Int32)) hx hb d_MM_escape_430 (by decide) ?_
      refine o_put (v := .int (1:Int32)) (ty := .boolean) (w1 := (m_cw ad ca ky ty 33 Ni (NP_mk (NP_nodeKind Np) (NP_nodeA Np) (NP_nodeB Np) (NP_nodeC Np) (NP_nodeNext Np) (NP_low Np) (NP_high Np) (NP_setFrom Np) (NP_setTo Np) (NP_setNot Np) (NP_nodes Np) (NP_sets Np) (NP_ranges Np) ((NP_pat Np) + (1:Int32)) (NP_patEnd Np) (1:Int32)) No Nx Nf Na Nh Nq Nj tc M1)) C in_MM t_MM t_MM_ok n_MM hP (hDD _ _ _ _ _ _ _ _ _ _ _ _) hS 0 mw_0 rfl 32 (by decide) k_8_22 rfl rfl (by decide +kernel) rfl rfl (Nat.le_of_ble_eq_true rfl) rfl d_MM_escape_431 (fun H locs hP hS => ?_)
      refine lv_iconst (v := (0:Int32)) hx hb d_MM_escape_434 (by decide) ?_
      cases h
      exact o_ri (v := (0:Int32)) C hP hS d_MM_escape_435
  replace h := o_ff c14 h
  by_cases c16 : q1 = (49:Int32)
  · replace h := o_tt c16 h
    refine lv_tableIn (off := 458) (tgt := 475) hx hb d_MM_escape_17 (by rw [c16]; decide) (by rw [c16]; decide) (by rw [c16]; rfl) (by decide) ?_
    refine lv_aload_n hx hb d_MM_escape_475 rfl (lv_at hl 1 rfl) ?_
    refine lv_iconst (v := (1:Int32)) hx hb d_MM_escape_476 (by decide) ?_
    refine o_put (v := .int (1:Int32)) (ty := .boolean) (w1 := (m_cw ad ca ky ty 33 Ni (NP_mk (NP_nodeKind Np) (NP_nodeA Np) (NP_nodeB Np) (NP_nodeC Np) (NP_nodeNext Np) (NP_low Np) (NP_high Np) (NP_setFrom Np) (NP_setTo Np) (NP_setNot Np) (NP_nodes Np) (NP_sets Np) (NP_ranges Np) ((NP_pat Np) + (1:Int32)) (NP_patEnd Np) (1:Int32)) No Nx Nf Na Nh Nq Nj tc M1)) C in_MM t_MM t_MM_ok n_MM hP (hDD _ _ _ _ _ _ _ _ _ _ _ _) hS 0 mw_0 rfl 32 (by decide) k_8_22 rfl rfl (by decide +kernel) rfl rfl (Nat.le_of_ble_eq_true rfl) rfl d_MM_escape_477 (fun H locs hP hS => ?_)
    refine lv_iconst (v := (0:Int32)) hx hb d_MM_escape_480 (by decide) ?_
    cases h
    exact o_ri (v := (0:Int32)) C hP hS d_MM_escape_481
  replace h := o_ff c16 h
  by_cases c17 : q1 = (50:Int32)
  · replace h := o_tt c17 h
    refine lv_tableIn (off := 458) (tgt := 475) hx hb d_MM_escape_17 (by rw [c17]; decide) (by rw [c17]; decide) (by rw [c17]; rfl) (by decide) ?_
    refine lv_aload_n hx hb d_MM_escape_475 rfl (lv_at hl 1 rfl) ?_
    refine lv_iconst (v := (1:Int32)) hx hb d_MM_escape_476 (by decide) ?_
    refine o_put (v := .int (1:Int32)) (ty := .boolean) (w1 := (m_cw ad ca ky ty 33 Ni (NP_mk (NP_nodeKind Np) (NP_nodeA Np) (NP_nodeB Np) (NP_nodeC Np) (NP_nodeNext Np) (NP_low Np) (NP_high Np) (NP_setFrom Np) (NP_setTo Np) (NP_setNot Np) (NP_nodes Np) (NP_sets Np) (NP_ranges Np) ((NP_pat Np) + (1:Int32)) (NP_patEnd Np) (1:Int32)) No Nx Nf Na Nh Nq Nj tc M1)) C in_MM t_MM t_MM_ok n_MM hP (hDD _ _ _ _ _ _ _ _ _ _ _ _) hS 0 mw_0 rfl 32 (by decide) k_8_22 rfl rfl (by decide +kernel) rfl rfl (Nat.le_of_ble_eq_true rfl) rfl d_MM_escape_477 (fun H locs hP hS => ?_)
    refine lv_iconst (v := (0:Int32)) hx hb d_MM_escape_480 (by decide) ?_
    cases h
    exact o_ri (v := (0:Int32)) C hP hS d_MM_escape_481
  replace h := o_ff c17 h
  by_cases c18 : q1 = (51:Int32)
  · replace h := o_tt c18 h
    refine lv_tableIn (off := 458) (tgt := 475) hx hb d_MM_escape_17 (by rw [c18]; decide) (by rw [c18]; decide) (by rw [c18]; rfl) (by decide) ?_
    refine lv_aload_n hx hb d_MM_escape_475 rfl (lv_at hl 1 rfl) ?_
    refine lv_iconst (v := (1:Int32)) hx hb d_MM_escape_476 (by decide) ?_
    refine o_put (v := .int (1:Int32)) (ty := .boolean) (w1 := (m_cw ad ca ky ty 33 Ni (NP_mk (NP_nodeKind Np) (NP_nodeA Np) (NP_nodeB Np) (NP_nodeC Np) (NP_nodeNext Np) (NP_low Np) (NP_high Np) (NP_setFrom Np) (NP_setTo Np) (NP_setNot Np) (NP_nodes Np) (NP_sets Np) (NP_ranges Np) ((NP_pat Np) + (1:Int32)) (NP_patEnd Np) (1:Int32)) No Nx Nf Na Nh Nq Nj tc M1)) C in_MM t_MM t_MM_ok n_MM hP (hDD _ _ _ _ _ _ _ _ _ _ _ _) hS 0 mw_0 rfl 32 (by decide) k_8_22 rfl rfl (by decide +kernel) rfl rfl (Nat.le_of_ble_eq_true rfl) rfl d_MM_escape_477 (fun H locs hP hS => ?_)
    refine lv_iconst (v := (0:Int32)) hx hb d_MM_escape_480 (by decide) ?_
    cases h
    exact o_ri (v := (0:Int32)) C hP hS d_MM_escape_481
  replace h := o_ff c18 h
  by_cases c19 : q1 = (52:Int32)
  · replace h := o_tt c19 h
    refine lv_tableIn (off := 458) (tgt := 475) hx hb d_MM_escape_17 (by rw [c19]; decide) (by rw [c19]; decide) (by rw [c19]; rfl) (by decide) ?_
    refine lv_aload_n hx hb d_MM_escape_475 rfl (lv_at hl 1 rfl) ?_
    refine lv_iconst (v := (1:Int32)) hx hb d_MM_escape_476 (by decide) ?_
    refine o_put (v := .int (1:Int32)) (ty := .boolean) (w1 := (m_cw ad ca ky ty 33 Ni (NP_mk (NP_nodeKind Np) (NP_nodeA Np) (NP_nodeB Np) (NP_nodeC Np) (NP_nodeNext Np) (NP_low Np) (NP_high Np) (NP_setFrom Np) (NP_setTo Np) (NP_setNot Np) (NP_nodes Np) (NP_sets Np) (NP_ranges Np) ((NP_pat Np) + (1:Int32)) (NP_patEnd Np) (1:Int32)) No Nx Nf Na Nh Nq Nj tc M1)) C in_MM t_MM t_MM_ok n_MM hP (hDD _ _ _ _ _ _ _ _ _ _ _ _) hS 0 mw_0 rfl 32 (by decide) k_8_22 rfl rfl (by decide +kernel) rfl rfl (Nat.le_of_ble_eq_true rfl) rfl d_MM_escape_477 (fun H locs hP hS => ?_)
    refine lv_iconst (v := (0:Int32)) hx hb d_MM_escape_480 (by decide) ?_
    cases h
    exact o_ri (v := (0:Int32)) C hP hS d_MM_escape_481
  replace h := o_ff c19 h
  by_cases c20 : q1 = (53:Int32)
  · replace h := o_tt c20 h
    refine lv_tableIn (off := 458) (tgt := 475) hx hb d_MM_escape_17 (by rw [c20]; decide) (by rw [c20]; decide) (by rw [c20]; rfl) (by decide) ?_
    refine lv_aload_n hx hb d_MM_escape_475 rfl (lv_at hl 1 rfl) ?_
    refine lv_iconst (v := (1:Int32)) hx hb d_MM_escape_476 (by decide) ?_
    refine o_put (v := .int (1:Int32)) (ty := .boolean) (w1 := (m_cw ad ca ky ty 33 Ni (NP_mk (NP_nodeKind Np) (NP_nodeA Np) (NP_nodeB Np) (NP_nodeC Np) (NP_nodeNext Np) (NP_low Np) (NP_high Np) (NP_setFrom Np) (NP_setTo Np) (NP_setNot Np) (NP_nodes Np) (NP_sets Np) (NP_ranges Np) ((NP_pat Np) + (1:Int32)) (NP_patEnd Np) (1:Int32)) No Nx Nf Na Nh Nq Nj tc M1)) C in_MM t_MM t_MM_ok n_MM hP (hDD _ _ _ _ _ _ _ _ _ _ _ _) hS 0 mw_0 rfl 32 (by decide) k_8_22 rfl rfl (by decide +kernel) rfl rfl (Nat.le_of_ble_eq_true rfl) rfl d_MM_escape_477 (fun H locs hP hS => ?_)
    refine lv_iconst (v := (0:Int32)) hx hb d_MM_escape_480 (by decide) ?_
    cases h
    exact o_ri (v := (0:Int32)) C hP hS d_MM_escape_481
  replace h := o_ff c20 h
  by_cases c21 : q1 = (54:Int32)
  · replace h := o_tt c21 h
    refine lv_tableIn (off := 458) (tgt := 475) hx hb d_MM_escape_17 (by rw [c21]; decide) (by rw [c21]; decide) (by rw [c21]; rfl) (by decide) ?_
    refine lv_aload_n hx hb d_MM_escape_475 rfl (lv_at hl 1 rfl) ?_
    refine lv_iconst (v := (1:Int32)) hx hb d_MM_escape_476 (by decide) ?_
    refine o_put (v := .int (1:Int32)) (ty := .boolean) (w1 := (m_cw ad ca ky ty 33 Ni (NP_mk (NP_nodeKind Np) (NP_nodeA Np) (NP_nodeB Np) (NP_nodeC Np) (NP_nodeNext Np) (NP_low Np) (NP_high Np) (NP_setFrom Np) (NP_setTo Np) (NP_setNot Np) (NP_nodes Np) (NP_sets Np) (NP_ranges Np) ((NP_pat Np) + (1:Int32)) (NP_patEnd Np) (1:Int32)) No Nx Nf Na Nh Nq Nj tc M1)) C in_MM t_MM t_MM_ok n_MM hP (hDD _ _ _ _ _ _ _ _ _ _ _ _) hS 0 mw_0 rfl 32 (by decide) k_8_22 rfl rfl (by decide +kernel) rfl rfl (Nat.le_of_ble_eq_true rfl) rfl d_MM_escape_477 (fun H locs hP hS => ?_)
    refine lv_iconst (v := (0:Int32)) hx hb d_MM_escape_480 (by decide) ?_
    cases h
    exact o_ri (v := (0:Int32)) C hP hS d_MM_escape_481
  replace h := o_ff c21 h
  by_cases c22 : q1 = (55:Int32)
  · replace h := o_tt c22 h
    refine lv_tableIn (off := 458) (tgt := 475) hx hb d_MM_escape_17 (by rw [c22]; decide) (by rw [c22]; decide) (by rw [c22]; rfl) (by decide) ?_
    refine lv_aload_n hx hb d_MM_escape_475 rfl (lv_at hl 1 rfl) ?_
    refine lv_iconst (v := (1:Int32)) hx hb d_MM_escape_476 (by decide) ?_
    refine o_put (v := .int (1:Int32)) (ty := .boolean) (w1 := (m_cw ad ca ky ty 33 Ni (NP_mk (NP_nodeKind Np) (NP_nodeA Np) (NP_nodeB Np) (NP_nodeC Np) (NP_nodeNext Np) (NP_low Np) (NP_high Np) (NP_setFrom Np) (NP_setTo Np) (NP_setNot Np) (NP_nodes Np) (NP_sets Np) (NP_ranges Np) ((NP_pat Np) + (1:Int32)) (NP_patEnd Np) (1:Int32)) No Nx Nf Na Nh Nq Nj tc M1)) C in_MM t_MM t_MM_ok n_MM hP (hDD _ _ _ _ _ _ _ _ _ _ _ _) hS 0 mw_0 rfl 32 (by decide) k_8_22 rfl rfl (by decide +kernel) rfl rfl (Nat.le_of_ble_eq_true rfl) rfl d_MM_escape_477 (fun H locs hP hS => ?_)
    refine lv_iconst (v := (0:Int32)) hx hb d_MM_escape_480 (by decide) ?_
    cases h
    exact o_ri (v := (0:Int32)) C hP hS d_MM_escape_481
  replace h := o_ff c22 h
  by_cases c23 : q1 = (56:Int32)
  · replace h := o_tt c23 h
    refine lv_tableIn (off := 458) (tgt := 475) hx hb d_MM_escape_17 (by rw [c23]; decide) (by rw [c23]; decide) (by rw [c23]; rfl) (by decide) ?_
    refine lv_aload_n hx hb d_MM_escape_475 rfl (lv_at hl 1 rfl) ?_
    refine lv_iconst (v := (1:Int32)) hx hb d_MM_escape_476 (by decide) ?_
    refine o_put (v := .int (1:Int32)) (ty := .boolean) (w1 := (m_cw ad ca ky ty 33 Ni (NP_mk (NP_nodeKind Np) (NP_nodeA Np) (NP_nodeB Np) (NP_nodeC Np) (NP_nodeNext Np) (NP_low Np) (NP_high Np) (NP_setFrom Np) (NP_setTo Np) (NP_setNot Np) (NP_nodes Np) (NP_sets Np) (NP_ranges Np) ((NP_pat Np) + (1:Int32)) (NP_patEnd Np) (1:Int32)) No Nx Nf Na Nh Nq Nj tc M1)) C in_MM t_MM t_MM_ok n_MM hP (hDD _ _ _ _ _ _ _ _ _ _ _ _) hS 0 mw_0 rfl 32 (by decide) k_8_22 rfl rfl (by decide +kernel) rfl rfl (Nat.le_of_ble_eq_true rfl) rfl d_MM_escape_477 (fun H locs hP hS => ?_)
    refine lv_iconst (v := (0:Int32)) hx hb d_MM_escape_480 (by decide) ?_
    cases h
    exact o_ri (v := (0:Int32)) C hP hS d_MM_escape_481
  replace h := o_ff c23 h
  by_cases c24 : q1 = (57:Int32)
  · replace h := o_tt c24 h
    refine lv_tableIn (off := 458) (tgt := 475) hx hb d_MM_escape_17 (by rw [c24]; decide) (by rw [c24]; decide) (by rw [c24]; rfl) (by decide) ?_
    refine lv_aload_n hx hb d_MM_escape_475 rfl (lv_at hl 1 rfl) ?_
    refine lv_iconst (v := (1:Int32)) hx hb d_MM_escape_476 (by decide) ?_
    refine o_put (v := .int (1:Int32)) (ty := .boolean) (w1 := (m_cw ad ca ky ty 33 Ni (NP_mk (NP_nodeKind Np) (NP_nodeA Np) (NP_nodeB Np) (NP_nodeC Np) (NP_nodeNext Np) (NP_low Np) (NP_high Np) (NP_setFrom Np) (NP_setTo Np) (NP_setNot Np) (NP_nodes Np) (NP_sets Np) (NP_ranges Np) ((NP_pat Np) + (1:Int32)) (NP_patEnd Np) (1:Int32)) No Nx Nf Na Nh Nq Nj tc M1)) C in_MM t_MM t_MM_ok n_MM hP (hDD _ _ _ _ _ _ _ _ _ _ _ _) hS 0 mw_0 rfl 32 (by decide) k_8_22 rfl rfl (by decide +kernel) rfl rfl (Nat.le_of_ble_eq_true rfl) rfl d_MM_escape_477 (fun H locs hP hS => ?_)
    refine lv_iconst (v := (0:Int32)) hx hb d_MM_escape_480 (by decide) ?_
    cases h
    exact o_ri (v := (0:Int32)) C hP hS d_MM_escape_481
  replace h := o_ff c24 h
  by_cases c25 : q1 = (58:Int32)
  · replace h := o_tt c25 h
    refine lv_tableIn (off := 458) (tgt := 475) hx hb d_MM_escape_17 (by rw [c25]; decide) (by rw [c25]; decide) (by rw [c25]; rfl) (by decide) ?_
    refine lv_aload_n hx hb d_MM_escape_475 rfl (lv_at hl 1 rfl) ?_
    refine lv_iconst (v := (1:Int32)) hx hb d_MM_escape_476 (by decide) ?_
    refine o_put (v := .int (1:Int32)) (ty := .boolean) (w1 := (m_cw ad ca ky ty 33 Ni (NP_mk (NP_nodeKind Np) (NP_nodeA Np) (NP_nodeB Np) (NP_nodeC Np) (NP_nodeNext Np) (NP_low Np) (NP_high Np) (NP_setFrom Np) (NP_setTo Np) (NP_setNot Np) (NP_nodes Np) (NP_sets Np) (NP_ranges Np) ((NP_pat Np) + (1:Int32)) (NP_patEnd Np) (1:Int32)) No Nx Nf Na Nh Nq Nj tc M1)) C in_MM t_MM t_MM_ok n_MM hP (hDD _ _ _ _ _ _ _ _ _ _ _ _) hS 0 mw_0 rfl 32 (by decide) k_8_22 rfl rfl (by decide +kernel) rfl rfl (Nat.le_of_ble_eq_true rfl) rfl d_MM_escape_477 (fun H locs hP hS => ?_)
    refine lv_iconst (v := (0:Int32)) hx hb d_MM_escape_480 (by decide) ?_
    cases h
    exact o_ri (v := (0:Int32)) C hP hS d_MM_escape_481
  replace h := o_ff c25 h
  by_cases c26 : q1 = (59:Int32)
  · replace h := o_tt c26 h
    refine lv_tableIn (off := 458) (tgt := 475) hx hb d_MM_escape_17 (by rw [c26]; decide) (by rw [c26]; decide) (by rw [c26]; rfl) (by decide) ?_
    refine lv_aload_n hx hb d_MM_escape_475 rfl (lv_at hl 1 rfl) ?_
    refine lv_iconst (v := (1:Int32)) hx hb d_MM_escape_476 (by decide) ?_
    refine o_put (v := .int (1:Int32)) (ty := .boolean) (w1 := (m_cw ad ca ky ty 33 Ni (NP_mk (NP_nodeKind Np) (NP_nodeA Np) (NP_nodeB Np) (NP_nodeC Np) (NP_nodeNext Np) (NP_low Np) (NP_high Np) (NP_setFrom Np) (NP_setTo Np) (NP_setNot Np) (NP_nodes Np) (NP_sets Np) (NP_ranges Np) ((NP_pat Np) + (1:Int32)) (NP_patEnd Np) (1:Int32)) No Nx Nf Na Nh Nq Nj tc M1)) C in_MM t_MM t_MM_ok n_MM hP (hDD _ _ _ _ _ _ _ _ _ _ _ _) hS 0 mw_0 rfl 32 (by decide) k_8_22 rfl rfl (by decide +kernel) rfl rfl (Nat.le_of_ble_eq_true rfl) rfl d_MM_escape_477 (fun H locs hP hS => ?_)
    refine lv_iconst (v := (0:Int32)) hx hb d_MM_escape_480 (by decide) ?_
    cases h
    exact o_ri (v := (0:Int32)) C hP hS d_MM_escape_481
  replace h := o_ff c26 h
  by_cases c27 : q1 = (60:Int32)
  · replace h := o_tt c27 h
    refine lv_tableIn (off := 458) (tgt := 475) hx hb d_MM_escape_17 (by rw [c27]; decide) (by rw [c27]; decide) (by rw [c27]; rfl) (by decide) ?_
    refine lv_aload_n hx hb d_MM_escape_475 rfl (lv_at hl 1 rfl) ?_
    refine lv_iconst (v := (1:Int32)) hx hb d_MM_escape_476 (by decide) ?_
    refine o_put (v := .int (1:Int32)) (ty := .boolean) (w1 := (m_cw ad ca ky ty 33 Ni (NP_mk (NP_nodeKind Np) (NP_nodeA Np) (NP_nodeB Np) (NP_nodeC Np) (NP_nodeNext Np) (NP_low Np) (NP_high Np) (NP_setFrom Np) (NP_setTo Np) (NP_setNot Np) (NP_nodes Np) (NP_sets Np) (NP_ranges Np) ((NP_pat Np) + (1:Int32)) (NP_patEnd Np) (1:Int32)) No Nx Nf Na Nh Nq Nj tc M1)) C in_MM t_MM t_MM_ok n_MM hP (hDD _ _ _ _ _ _ _ _ _ _ _ _) hS 0 mw_0 rfl 32 (by decide) k_8_22 rfl rfl (by decide +kernel) rfl rfl (Nat.le_of_ble_eq_true rfl) rfl d_MM_escape_477 (fun H locs hP hS => ?_)
    refine lv_iconst (v := (0:Int32)) hx hb d_MM_escape_480 (by decide) ?_
    cases h
    exact o_ri (v := (0:Int32)) C hP hS d_MM_escape_481
  replace h := o_ff c27 h
  by_cases c28 : q1 = (61:Int32)
  · replace h := o_tt c28 h
    refine lv_tableIn (off := 458) (tgt := 475) hx hb d_MM_escape_17 (by rw [c28]; decide) (by rw [c28]; decide) (by rw [c28]; rfl) (by decide) ?_
    refine lv_aload_n hx hb d_MM_escape_475 rfl (lv_at hl 1 rfl) ?_
    refine lv_iconst (v := (1:Int32)) hx hb d_MM_escape_476 (by decide) ?_
    refine o_put (v := .int (1:Int32)) (ty := .boolean) (w1 := (m_cw ad ca ky ty 33 Ni (NP_mk (NP_nodeKind Np) (NP_nodeA Np) (NP_nodeB Np) (NP_nodeC Np) (NP_nodeNext Np) (NP_low Np) (NP_high Np) (NP_setFrom Np) (NP_setTo Np) (NP_setNot Np) (NP_nodes Np) (NP_sets Np) (NP_ranges Np) ((NP_pat Np) + (1:Int32)) (NP_patEnd Np) (1:Int32)) No Nx Nf Na Nh Nq Nj tc M1)) C in_MM t_MM t_MM_ok n_MM hP (hDD _ _ _ _ _ _ _ _ _ _ _ _) hS 0 mw_0 rfl 32 (by decide) k_8_22 rfl rfl (by decide +kernel) rfl rfl (Nat.le_of_ble_eq_true rfl) rfl d_MM_escape_477 (fun H locs hP hS => ?_)
    refine lv_iconst (v := (0:Int32)) hx hb d_MM_escape_480 (by decide) ?_
    cases h
    exact o_ri (v := (0:Int32)) C hP hS d_MM_escape_481
  replace h := o_ff c28 h
  by_cases c29 : q1 = (62:Int32)
  · replace h := o_tt c29 h
    refine lv_tableIn (off := 458) (tgt := 475) hx hb d_MM_escape_17 (by rw [c29]; decide) (by rw [c29]; decide) (by rw [c29]; rfl) (by decide) ?_
    refine lv_aload_n hx hb d_MM_escape_475 rfl (lv_at hl 1 rfl) ?_
    refine lv_iconst (v := (1:Int32)) hx hb d_MM_escape_476 (by decide) ?_
    refine o_put (v := .int (1:Int32)) (ty := .boolean) (w1 := (m_cw ad ca ky ty 33 Ni (NP_mk (NP_nodeKind Np) (NP_nodeA Np) (NP_nodeB Np) (NP_nodeC Np) (NP_nodeNext Np) (NP_low Np) (NP_high Np) (NP_setFrom Np) (NP_setTo Np) (NP_setNot Np) (NP_nodes Np) (NP_sets Np) (NP_ranges Np) ((NP_pat Np) + (1:Int32)) (NP_patEnd Np) (1:Int32)) No Nx Nf Na Nh Nq Nj tc M1)) C in_MM t_MM t_MM_ok n_MM hP (hDD _ _ _ _ _ _ _ _ _ _ _ _) hS 0 mw_0 rfl 32 (by decide) k_8_22 rfl rfl (by decide +kernel) rfl rfl (Nat.le_of_ble_eq_true rfl) rfl d_MM_escape_477 (fun H locs hP hS => ?_)
    refine lv_iconst (v := (0:Int32)) hx hb d_MM_escape_480 (by decide) ?_
    cases h
    exact o_ri (v := (0:Int32)) C hP hS d_MM_escape_481
  replace h := o_ff c29 h
  by_cases c30 : q1 = (63:Int32)
  · replace h := o_tt c30 h
    refine lv_tableIn (off := 456) (tgt := 473) hx hb d_MM_escape_17 (by rw [c30]; decide) (by rw [c30]; decide) (by rw [c30]; rfl) (by decide) ?_
    refine lv_iload_n hx hb d_MM_escape_473 rfl (lv_at hl 0 rfl) ?_
    cases h
    exact o_ri C hP hS d_MM_escape_474
  replace h := o_ff c30 h
  by_cases c31 : q1 = (64:Int32)
  · replace h := o_tt c31 h
    refine lv_tableIn (off := 458) (tgt := 475) hx hb d_MM_escape_17 (by rw [c31]; decide) (by rw [c31]; decide) (by rw [c31]; rfl) (by decide) ?_
    refine lv_aload_n hx hb d_MM_escape_475 rfl (lv_at hl 1 rfl) ?_
    refine lv_iconst (v := (1:Int32)) hx hb d_MM_escape_476 (by decide) ?_
    refine o_put (v := .int (1:Int32)) (ty := .boolean) (w1 := (m_cw ad ca ky ty 33 Ni (NP_mk (NP_nodeKind Np) (NP_nodeA Np) (NP_nodeB Np) (NP_nodeC Np) (NP_nodeNext Np) (NP_low Np) (NP_high Np) (NP_setFrom Np) (NP_setTo Np) (NP_setNot Np) (NP_nodes Np) (NP_sets Np) (NP_ranges Np) ((NP_pat Np) + (1:Int32)) (NP_patEnd Np) (1:Int32)) No Nx Nf Na Nh Nq Nj tc M1)) C in_MM t_MM t_MM_ok n_MM hP (hDD _ _ _ _ _ _ _ _ _ _ _ _) hS 0 mw_0 rfl 32 (by decide) k_8_22 rfl rfl (by decide +kernel) rfl rfl (Nat.le_of_ble_eq_true rfl) rfl d_MM_escape_477 (fun H locs hP hS => ?_)
    refine lv_iconst (v := (0:Int32)) hx hb d_MM_escape_480 (by decide) ?_
    cases h
    exact o_ri (v := (0:Int32)) C hP hS d_MM_escape_481
  replace h := o_ff c31 h
  by_cases c32 : q1 = (65:Int32)
  · replace h := o_tt c32 h
    refine lv_tableIn (off := 458) (tgt := 475) hx hb d_MM_escape_17 (by rw [c32]; decide) (by rw [c32]; decide) (by rw [c32]; rfl) (by decide) ?_
    refine lv_aload_n hx hb d_MM_escape_475 rfl (lv_at hl 1 rfl) ?_
    refine lv_iconst (v := (1:Int32)) hx hb d_MM_escape_476 (by decide) ?_
    refine o_put (v := .int (1:Int32)) (ty := .boolean) (w1 := (m_cw ad ca ky ty 33 Ni (NP_mk (NP_nodeKind Np) (NP_nodeA Np) (NP_nodeB Np) (NP_nodeC Np) (NP_nodeNext Np) (NP_low Np) (NP_high Np) (NP_setFrom Np) (NP_setTo Np) (NP_setNot Np) (NP_nodes Np) (NP_sets Np) (NP_ranges Np) ((NP_pat Np) + (1:Int32)) (NP_patEnd Np) (1:Int32)) No Nx Nf Na Nh Nq Nj tc M1)) C in_MM t_MM t_MM_ok n_MM hP (hDD _ _ _ _ _ _ _ _ _ _ _ _) hS 0 mw_0 rfl 32 (by decide) k_8_22 rfl rfl (by decide +kernel) rfl rfl (Nat.le_of_ble_eq_true rfl) rfl d_MM_escape_477 (fun H locs hP hS => ?_)
    refine lv_iconst (v := (0:Int32)) hx hb d_MM_escape_480 (by decide) ?_
    cases h
    exact o_ri (v := (0:Int32)) C hP hS d_MM_escape_481
  replace h := o_ff c32 h
  by_cases c33 : q1 = (66:Int32)
  · replace h := o_tt c33 h
    refine lv_tableIn (off := 458) (tgt := 475) hx hb d_MM_escape_17 (by rw [c33]; decide) (by rw [c33]; decide) (by rw [c33]; rfl) (by decide) ?_
    refine lv_aload_n hx hb d_MM_escape_475 rfl (lv_at hl 1 rfl) ?_
    refine lv_iconst (v := (1:Int32)) hx hb d_MM_escape_476 (by decide) ?_
    refine o_put (v := .int (1:Int32)) (ty := .boolean) (w1 := (m_cw ad ca ky ty 33 Ni (NP_mk (NP_nodeKind Np) (NP_nodeA Np) (NP_nodeB Np) (NP_nodeC Np) (NP_nodeNext Np) (NP_low Np) (NP_high Np) (NP_setFrom Np) (NP_setTo Np) (NP_setNot Np) (NP_nodes Np) (NP_sets Np) (NP_ranges Np) ((NP_pat Np) + (1:Int32)) (NP_patEnd Np) (1:Int32)) No Nx Nf Na Nh Nq Nj tc M1)) C in_MM t_MM t_MM_ok n_MM hP (hDD _ _ _ _ _ _ _ _ _ _ _ _) hS 0 mw_0 rfl 32 (by decide) k_8_22 rfl rfl (by decide +kernel) rfl rfl (Nat.le_of_ble_eq_true rfl) rfl d_MM_escape_477 (fun H locs hP hS => ?_)
    refine lv_iconst (v := (0:Int32)) hx hb d_MM_escape_480 (by decide) ?_
    cases h
    exact o_ri (v := (0:Int32)) C hP hS d_MM_escape_481
  replace h := o_ff c33 h
  by_cases c34 : q1 = (67:Int32)
  · replace h := o_tt c34 h
    refine lv_tableIn (off := 458) (tgt := 475) hx hb d_MM_escape_17 (by rw [c34]; decide) (by rw [c34]; decide) (by rw [c34]; rfl) (by decide) ?_
    refine lv_aload_n hx hb d_MM_escape_475 rfl (lv_at hl 1 rfl) ?_
    refine lv_iconst (v := (1:Int32)) hx hb d_MM_escape_476 (by decide) ?_
    refine o_put (v := .int (1:Int32)) (ty := .boolean) (w1 := (m_cw ad ca ky ty 33 Ni (NP_mk (NP_nodeKind Np) (NP_nodeA Np) (NP_nodeB Np) (NP_nodeC Np) (NP_nodeNext Np) (NP_low Np) (NP_high Np) (NP_setFrom Np) (NP_setTo Np) (NP_setNot Np) (NP_nodes Np) (NP_sets Np) (NP_ranges Np) ((NP_pat Np) + (1:Int32)) (NP_patEnd Np) (1:Int32)) No Nx Nf Na Nh Nq Nj tc M1)) C in_MM t_MM t_MM_ok n_MM hP (hDD _ _ _ _ _ _ _ _ _ _ _ _) hS 0 mw_0 rfl 32 (by decide) k_8_22 rfl rfl (by decide +kernel) rfl rfl (Nat.le_of_ble_eq_true rfl) rfl d_MM_escape_477 (fun H locs hP hS => ?_)
    refine lv_iconst (v := (0:Int32)) hx hb d_MM_escape_480 (by decide) ?_
    cases h
    exact o_ri (v := (0:Int32)) C hP hS d_MM_escape_481
  replace h := o_ff c34 h
  by_cases c35 : q1 = (68:Int32)
  · replace h := o_tt c35 h
    refine lv_tableIn (off := 375) (tgt := 392) hx hb d_MM_escape_17 (by rw [c35]; decide) (by rw [c35]; decide) (by rw [c35]; rfl) (by decide) ?_
    refine lv_aload_n hx hb d_MM_escape_392 rfl (lv_at hl 1 rfl) ?_
    refine lv_iload_n hx hb d_MM_escape_393 rfl (lv_at hl 0 rfl) ?_
    obtain ⟨q4, hq4, h⟩ := o_bd_some h
    refine o_V (st1 := []) (w1 := (m_cw ad ca ky ty 33 Ni q4 No Nx Nf Na Nh Nq Nj tc M1)) hE.1 C (e_MM_set hE hKy l n q1 (NP_mk (NP_nodeKind Np) (NP_nodeA Np) (NP_nodeB Np) (NP_nodeC Np) (NP_nodeNext Np) (NP_low Np) (NP_high Np) (NP_setFrom Np) (NP_setTo Np) (NP_setNot Np) (NP_nodes Np) (NP_sets Np) (NP_ranges Np) ((NP_pat Np) + (1:Int32)) (NP_patEnd Np) (NP_broken Np)) Ni No Nx Nf Na Nh Nq Nj tc M1 33 hq4) hP (hDD _ _ _ _ _ _ _ _ _ _ _ _) hS hl.1 rfl mw_0 k_9_98 k_9_100 k_s_96 k_1_12 k_9_101 hv_MM_set rfl rfl ⟨(Nat.le_of_ble_eq_true rfl), (Nat.le_of_ble_eq_true rfl)⟩ rfl (Nat.le_of_ble_eq_true rfl) ⟨Nat.zero_le _, Nat.zero_le _⟩ rfl d_MM_escape_394 (fun H locs hP hS => ?_)
    refine lv_iconst (v := (-1:Int32)) hx hb d_MM_escape_397 (by decide) ?_
    cases h
    exact o_ri (v := (-1:Int32)) C hP hS d_MM_escape_398
  replace h := o_ff c35 h
  by_cases c36 : q1 = (69:Int32)
  · replace h := o_tt c36 h
    refine lv_tableIn (off := 458) (tgt := 475) hx hb d_MM_escape_17 (by rw [c36]; decide) (by rw [c36]; decide) (by rw [c36]; rfl) (by decide) ?_
    refine lv_aload_n hx hb d_MM_escape_475 rfl (lv_at hl 1 rfl) ?_
    refine lv_iconst (v := (1:Int32)) hx hb d_MM_escape_476 (by decide) ?_
    refine o_put (v := .int (1:Int32)) (ty := .boolean) (w1 := (m_cw ad ca ky ty 33 Ni (NP_mk (NP_nodeKind Np) (NP_nodeA Np) (NP_nodeB Np) (NP_nodeC Np) (NP_nodeNext Np) (NP_low Np) (NP_high Np) (NP_setFrom Np) (NP_setTo Np) (NP_setNot Np) (NP_nodes Np) (NP_sets Np) (NP_ranges Np) ((NP_pat Np) + (1:Int32)) (NP_patEnd Np) (1:Int32)) No Nx Nf Na Nh Nq Nj tc M1)) C in_MM t_MM t_MM_ok n_MM hP (hDD _ _ _ _ _ _ _ _ _ _ _ _) hS 0 mw_0 rfl 32 (by decide) k_8_22 rfl rfl (by decide +kernel) rfl rfl (Nat.le_of_ble_eq_true rfl) rfl d_MM_escape_477 (fun H locs hP hS => ?_)
    refine lv_iconst (v := (0:Int32)) hx hb d_MM_escape_480 (by decide) ?_
    cases h
    exact o_ri (v := (0:Int32)) C hP hS d_MM_escape_481
  replace h := o_ff c36 h
  by_cases c37 : q1 = (70:Int32)
  · replace h := o_tt c37 h
    refine lv_tableIn (off := 458) (tgt := 475) hx hb d_MM_escape_17 (by rw [c37]; decide) (by rw [c37]; decide) (by rw [c37]; rfl) (by decide) ?_
    refine lv_aload_n hx hb d_MM_escape_475 rfl (lv_at hl 1 rfl) ?_
    refine lv_iconst (v := (1:Int32)) hx hb d_MM_escape_476 (by decide) ?_
    refine o_put (v := .int (1:Int32)) (ty := .boolean) (w1 := (m_cw ad ca ky ty 33 Ni (NP_mk (NP_nodeKind Np) (NP_nodeA Np) (NP_nodeB Np) (NP_nodeC Np) (NP_nodeNext Np) (NP_low Np) (NP_high Np) (NP_setFrom Np) (NP_setTo Np) (NP_setNot Np) (NP_nodes Np) (NP_sets Np) (NP_ranges Np) ((NP_pat Np) + (1:Int32)) (NP_patEnd Np) (1:Int32)) No Nx Nf Na Nh Nq Nj tc M1)) C in_MM t_MM t_MM_ok n_MM hP (hDD _ _ _ _ _ _ _ _ _ _ _ _) hS 0 mw_0 rfl 32 (by decide) k_8_22 rfl rfl (by decide +kernel) rfl rfl (Nat.le_of_ble_eq_true rfl) rfl d_MM_escape_477 (fun H locs hP hS => ?_)
    refine lv_iconst (v := (0:Int32)) hx hb d_MM_escape_480 (by decide) ?_
    cases h
    exact o_ri (v := (0:Int32)) C hP hS d_MM_escape_481
  replace h := o_ff c37 h
  by_cases c38 : q1 = (71:Int32)
  · replace h := o_tt c38 h
    refine lv_tableIn (off := 458) (tgt := 475) hx hb d_MM_escape_17 (by rw [c38]; decide) (by rw [c38]; decide) (by rw [c38]; rfl) (by decide) ?_
    refine lv_aload_n hx hb d_MM_escape_475 rfl (lv_at hl 1 rfl) ?_
    refine lv_iconst (v := (1:Int32)) hx hb d_MM_escape_476 (by decide) ?_
    refine o_put (v := .int (1:Int32)) (ty := .boolean) (w1 := (m_cw ad ca ky ty 33 Ni (NP_mk (NP_nodeKind Np) (NP_nodeA Np) (NP_nodeB Np) (NP_nodeC Np) (NP_nodeNext Np) (NP_low Np) (NP_high Np) (NP_setFrom Np) (NP_setTo Np) (NP_setNot Np) (NP_nodes Np) (NP_sets Np) (NP_ranges Np) ((NP_pat Np) + (1:Int32)) (NP_patEnd Np) (1:Int32)) No Nx Nf Na Nh Nq Nj tc M1)) C in_MM t_MM t_MM_ok n_MM hP (hDD _ _ _ _ _ _ _ _ _ _ _ _) hS 0 mw_0 rfl 32 (by decide) k_8_22 rfl rfl (by decide +kernel) rfl rfl (Nat.le_of_ble_eq_true rfl) rfl d_MM_escape_477 (fun H locs hP hS => ?_)
    refine lv_iconst (v := (0:Int32)) hx hb d_MM_escape_480 (by decide) ?_
    cases h
    exact o_ri (v := (0:Int32)) C hP hS d_MM_escape_481
  replace h := o_ff c38 h
  by_cases c39 : q1 = (72:Int32)
  · replace h := o_tt c39 h
    refine lv_tableIn (off := 458) (tgt := 475) hx hb d_MM_escape_17 (by rw [c39]; decide) (by rw [c39]; decide) (by rw [c39]; rfl) (by decide) ?_
    refine lv_aload_n hx hb d_MM_escape_475 rfl (lv_at hl 1 rfl) ?_
    refine lv_iconst (v := (1:Int32)) hx hb d_MM_escape_476 (by decide) ?_
    refine o_put (v := .int (1:Int32)) (ty := .boolean) (w1 := (m_cw ad ca ky ty 33 Ni (NP_mk (NP_nodeKind Np) (NP_nodeA Np) (NP_nodeB Np) (NP_nodeC Np) (NP_nodeNext Np) (NP_low Np) (NP_high Np) (NP_setFrom Np) (NP_setTo Np) (NP_setNot Np) (NP_nodes Np) (NP_sets Np) (NP_ranges Np) ((NP_pat Np) + (1:Int32)) (NP_patEnd Np) (1:Int32)) No Nx Nf Na Nh Nq Nj tc M1)) C in_MM t_MM t_MM_ok n_MM hP (hDD _ _ _ _ _ _ _ _ _ _ _ _) hS 0 mw_0 rfl 32 (by decide) k_8_22 rfl rfl (by decide +kernel) rfl rfl (Nat.le_of_ble_eq_true rfl) rfl d_MM_escape_477 (fun H locs hP hS => ?_)
    refine lv_iconst (v := (0:Int32)) hx hb d_MM_escape_480 (by decide) ?_
    cases h
    exact o_ri (v := (0:Int32)) C hP hS d_MM_escape_481
  replace h := o_ff c39 h
  by_cases c40 : q1 = (73:Int32)
  · replace h := o_tt c40 h
    refine lv_tableIn (off := 458) (tgt := 475) hx hb d_MM_escape_17 (by rw [c40]; decide) (by rw [c40]; decide) (by rw [c40]; rfl) (by decide) ?_
    refine lv_aload_n hx hb d_MM_escape_475 rfl (lv_at hl 1 rfl) ?_
    refine lv_iconst (v := (1:Int32)) hx hb d_MM_escape_476 (by decide) ?_
    refine o_put (v := .int (1:Int32)) (ty := .boolean) (w1 := (m_cw ad ca ky ty 33 Ni (NP_mk (NP_nodeKind Np) (NP_nodeA Np) (NP_nodeB Np) (NP_nodeC Np) (NP_nodeNext Np) (NP_low Np) (NP_high Np) (NP_setFrom Np) (NP_setTo Np) (NP_setNot Np) (NP_nodes Np) (NP_sets Np) (NP_ranges Np) ((NP_pat Np) + (1:Int32)) (NP_patEnd Np) (1:Int32)) No Nx Nf Na Nh Nq Nj tc M1)) C in_MM t_MM t_MM_ok n_MM hP (hDD _ _ _ _ _ _ _ _ _ _ _ _) hS 0 mw_0 rfl 32 (by decide) k_8_22 rfl rfl (by decide +kernel) rfl rfl (Nat.le_of_ble_eq_true rfl) rfl d_MM_escape_477 (fun H locs hP hS => ?_)
    refine lv_iconst (v := (0:Int32)) hx hb d_MM_escape_480 (by decide) ?_
    cases h
    exact o_ri (v := (0:Int32)) C hP hS d_MM_escape_481
  replace h := o_ff c40 h
  by_cases c41 : q1 = (74:Int32)
  · replace h := o_tt c41 h
    refine lv_tableIn (off := 458) (tgt := 475) hx hb d_MM_escape_17 (by rw [c41]; decide) (by rw [c41]; decide) (by rw [c41]; rfl) (by decide) ?_
    refine lv_aload_n hx hb d_MM_escape_475 rfl (lv_at hl 1 rfl) ?_
    refine lv_iconst (v := (1:Int32)) hx hb d_MM_escape_476 (by decide) ?_
    refine o_put (v := .int (1:Int32)) (ty := .boolean) (w1 := (m_cw ad ca ky ty 33 Ni (NP_mk (NP_nodeKind Np) (NP_nodeA Np) (NP_nodeB Np) (NP_nodeC Np) (NP_nodeNext Np) (NP_low Np) (NP_high Np) (NP_setFrom Np) (NP_setTo Np) (NP_setNot Np) (NP_nodes Np) (NP_sets Np) (NP_ranges Np) ((NP_pat Np) + (1:Int32)) (NP_patEnd Np) (1:Int32)) No Nx Nf Na Nh Nq Nj tc M1)) C in_MM t_MM t_MM_ok n_MM hP (hDD _ _ _ _ _ _ _ _ _ _ _ _) hS 0 mw_0 rfl 32 (by decide) k_8_22 rfl rfl (by decide +kernel) rfl rfl (Nat.le_of_ble_eq_true rfl) rfl d_MM_escape_477 (fun H locs hP hS => ?_)
    refine lv_iconst (v := (0:Int32)) hx hb d_MM_escape_480 (by decide) ?_
    cases h
    exact o_ri (v := (0:Int32)) C hP hS d_MM_escape_481
  replace h := o_ff c41 h
  by_cases c42 : q1 = (75:Int32)
  · replace h := o_tt c42 h
    refine lv_tableIn (off := 458) (tgt := 475) hx hb d_MM_escape_17 (by rw [c42]; decide) (by rw [c42]; decide) (by rw [c42]; rfl) (by decide) ?_
    refine lv_aload_n hx hb d_MM_escape_475 rfl (lv_at hl 1 rfl) ?_
    refine lv_iconst (v := (1:Int32)) hx hb d_MM_escape_476 (by decide) ?_
    refine o_put (v := .int (1:Int32)) (ty := .boolean) (w1 := (m_cw ad ca ky ty 33 Ni (NP_mk (NP_nodeKind Np) (NP_nodeA Np) (NP_nodeB Np) (NP_nodeC Np) (NP_nodeNext Np) (NP_low Np) (NP_high Np) (NP_setFrom Np) (NP_setTo Np) (NP_setNot Np) (NP_nodes Np) (NP_sets Np) (NP_ranges Np) ((NP_pat Np) + (1:Int32)) (NP_patEnd Np) (1:Int32)) No Nx Nf Na Nh Nq Nj tc M1)) C in_MM t_MM t_MM_ok n_MM hP (hDD _ _ _ _ _ _ _ _ _ _ _ _) hS 0 mw_0 rfl 32 (by decide) k_8_22 rfl rfl (by decide +kernel) rfl rfl (Nat.le_of_ble_eq_true rfl) rfl d_MM_escape_477 (fun H locs hP hS => ?_)
    refine lv_iconst (v := (0:Int32)) hx hb d_MM_escape_480 (by decide) ?_
    cases h
    exact o_ri (v := (0:Int32)) C hP hS d_MM_escape_481
  replace h := o_ff c42 h
  by_cases c43 : q1 = (76:Int32)
  · replace h := o_tt c43 h
    refine lv_tableIn (off := 458) (tgt := 475) hx hb d_MM_escape_17 (by rw [c43]; decide) (by rw [c43]; decide) (by rw [c43]; rfl) (by decide) ?_
    refine lv_aload_n hx hb d_MM_escape_475 rfl (lv_at hl 1 rfl) ?_
    refine lv_iconst (v := (1:Int32)) hx hb d_MM_escape_476 (by decide) ?_
    refine o_put (v := .int (1:Int32)) (ty := .boolean) (w1 := (m_cw ad ca ky ty 33 Ni (NP_mk (NP_nodeKind Np) (NP_nodeA Np) (NP_nodeB Np) (NP_nodeC Np) (NP_nodeNext Np) (NP_low Np) (NP_high Np) (NP_setFrom Np) (NP_setTo Np) (NP_setNot Np) (NP_nodes Np) (NP_sets Np) (NP_ranges Np) ((NP_pat Np) + (1:Int32)) (NP_patEnd Np) (1:Int32)) No Nx Nf Na Nh Nq Nj tc M1)) C in_MM t_MM t_MM_ok n_MM hP (hDD _ _ _ _ _ _ _ _ _ _ _ _) hS 0 mw_0 rfl 32 (by decide) k_8_22 rfl rfl (by decide +kernel) rfl rfl (Nat.le_of_ble_eq_true rfl) rfl d_MM_escape_477 (fun H locs hP hS => ?_)
    refine lv_iconst (v := (0:Int32)) hx hb d_MM_escape_480 (by decide) ?_
    cases h
    exact o_ri (v := (0:Int32)) C hP hS d_MM_escape_481
  replace h := o_ff c43 h
  by_cases c44 : q1 = (77:Int32)
  · replace h := o_tt c44 h
    refine lv_tableIn (off := 458) (tgt := 475) hx hb d_MM_escape_17 (by rw [c44]; decide) (by rw [c44]; decide) (by rw [c44]; rfl) (by decide) ?_
    refine lv_aload_n hx hb d_MM_escape_475 rfl (lv_at hl 1 rfl) ?_
    refine lv_iconst (v := (1:Int32)) hx hb d_MM_escape_476 (by decide) ?_
    refine o_put (v := .int (1:Int32)) (ty := .boolean) (w1 := (m_cw ad ca ky ty 33 Ni (NP_mk (NP_nodeKind Np) (NP_nodeA Np) (NP_nodeB Np) (NP_nodeC Np) (NP_nodeNext Np) (NP_low Np) (NP_high Np) (NP_setFrom Np) (NP_setTo Np) (NP_setNot Np) (NP_nodes Np) (NP_sets Np) (NP_ranges Np) ((NP_pat Np) + (1:Int32)) (NP_patEnd Np) (1:Int32)) No Nx Nf Na Nh Nq Nj tc M1)) C in_MM t_MM t_MM_ok n_MM hP (hDD _ _ _ _ _ _ _ _ _ _ _ _) hS 0 mw_0 rfl 32 (by decide) k_8_22 rfl rfl (by decide +kernel) rfl rfl (Nat.le_of_ble_eq_true rfl) rfl d_MM_escape_477 (fun H locs hP hS => ?_)
    refine lv_iconst (v := (0:Int32)) hx hb d_MM_escape_480 (by decide) ?_
    cases h
    exact o_ri (v := (0:Int32)) C hP hS d_MM_escape_481
  replace h := o_ff c44 h
  by_cases c45 : q1 = (78:Int32)
  · replace h := o_tt c45 h
    refine lv_tableIn (off := 458) (tgt := 475) hx hb d_MM_escape_17 (by rw [c45]; decide) (by rw [c45]; decide) (by rw [c45]; rfl) (by decide) ?_
    refine lv_aload_n hx hb d_MM_escape_475 rfl (lv_at hl 1 rfl) ?_
    refine lv_iconst (v := (1:Int32)) hx hb d_MM_escape_476 (by decide) ?_
    refine o_put (v := .int (1:Int32)) (ty := .boolean) (w1 := (m_cw ad ca ky ty 33 Ni (NP_mk (NP_nodeKind Np) (NP_nodeA Np) (NP_nodeB Np) (NP_nodeC Np) (NP_nodeNext Np) (NP_low Np) (NP_high Np) (NP_setFrom Np) (NP_setTo Np) (NP_setNot Np) (NP_nodes Np) (NP_sets Np) (NP_ranges Np) ((NP_pat Np) + (1:Int32)) (NP_patEnd Np) (1:Int32)) No Nx Nf Na Nh Nq Nj tc M1)) C in_MM t_MM t_MM_ok n_MM hP (hDD _ _ _ _ _ _ _ _ _ _ _ _) hS 0 mw_0 rfl 32 (by decide) k_8_22 rfl rfl (by decide +kernel) rfl rfl (Nat.le_of_ble_eq_true rfl) rfl d_MM_escape_477 (fun H locs hP hS => ?_)
    refine lv_iconst (v := (0:Int32)) hx hb d_MM_escape_480 (by decide) ?_
    cases h
    exact o_ri (v := (0:Int32)) C hP hS d_MM_escape_481
  replace h := o_ff c45 h
  by_cases c46 : q1 = (79:Int32)
  · replace h := o_tt c46 h
    refine lv_tableIn (off := 458) (tgt := 475) hx hb d_MM_escape_17 (by rw [c46]; decide) (by rw [c46]; decide) (by rw [c46]; rfl) (by decide) ?_
    refine lv_aload_n hx hb d_MM_escape_475 rfl (lv_at hl 1 rfl) ?_
    refine lv_iconst (v := (1:Int32)) hx hb d_MM_escape_476 (by decide) ?_
    refine o_put (v := .int (1:Int32)) (ty := .boolean) (w1 := (m_cw ad ca ky ty 33 Ni (NP_mk (NP_nodeKind Np) (NP_nodeA Np) (NP_nodeB Np) (NP_nodeC Np) (NP_nodeNext Np) (NP_low Np) (NP_high Np) (NP_setFrom Np) (NP_setTo Np) (NP_setNot Np) (NP_nodes Np) (NP_sets Np) (NP_ranges Np) ((NP_pat Np) + (1:Int32)) (NP_patEnd Np) (1:Int32)) No Nx Nf Na Nh Nq Nj tc M1)) C in_MM t_MM t_MM_ok n_MM hP (hDD _ _ _ _ _ _ _ _ _ _ _ _) hS 0 mw_0 rfl 32 (by decide) k_8_22 rfl rfl (by decide +kernel) rfl rfl (Nat.le_of_ble_eq_true rfl) rfl d_MM_escape_477 (fun H locs hP hS => ?_)
    refine lv_iconst (v := (0:Int32)) hx hb d_MM_escape_480 (by decide) ?_
    cases h
    exact o_ri (v := (0:Int32)) C hP hS d_MM_escape_481
  replace h := o_ff c46 h
  by_cases c47 : q1 = (80:Int32)
  · replace h := o_tt c47 h
    refine lv_tableIn (off := 458) (tgt := 475) hx hb d_MM_escape_17 (by rw [c47]; decide) (by rw [c47]; decide) (by rw [c47]; rfl) (by decide) ?_
    refine lv_aload_n hx hb d_MM_escape_475 rfl (lv_at hl 1 rfl) ?_
    refine lv_iconst (v := (1:Int32)) hx hb d_MM_escape_476 (by decide) ?_
    refine o_put (v := .int (1:Int32)) (ty := .boolean) (w1 := (m_cw ad ca ky ty 33 Ni (NP_mk (NP_nodeKind Np) (NP_nodeA Np) (NP_nodeB Np) (NP_nodeC Np) (NP_nodeNext Np) (NP_low Np) (NP_high Np) (NP_setFrom Np) (NP_setTo Np) (NP_setNot Np) (NP_nodes Np) (NP_sets Np) (NP_ranges Np) ((NP_pat Np) + (1:Int32)) (NP_patEnd Np) (1:Int32)) No Nx Nf Na Nh Nq Nj tc M1)) C in_MM t_MM t_MM_ok n_MM hP (hDD _ _ _ _ _ _ _ _ _ _ _ _) hS 0 mw_0 rfl 32 (by decide) k_8_22 rfl rfl (by decide +kernel) rfl rfl (Nat.le_of_ble_eq_true rfl) rfl d_MM_escape_477 (fun H locs hP hS => ?_)
    refine lv_iconst (v := (0:Int32)) hx hb d_MM_escape_480 (by decide) ?_
    cases h
    exact o_ri (v := (0:Int32)) C hP hS d_MM_escape_481
  replace h := o_ff c47 h
  by_cases c48 : q1 = (81:Int32)
  · replace h := o_tt c48 h
    refine lv_tableIn (off := 458) (tgt := 475) hx hb d_MM_escape_17 (by rw [c48]; decide) (by rw [c48]; decide) (by rw [c48]; rfl) (by decide) ?_
    refine lv_aload_n hx hb d_MM_escape_475 rfl (lv_at hl 1 rfl) ?_
    refine lv_iconst (v := (1:Int32)) hx hb d_MM_escape_476 (by decide) ?_
    refine o_put (v := .int (1:Int32)) (ty := .boolean) (w1 := (m_cw ad ca ky ty 33 Ni (NP_mk (NP_nodeKind Np) (NP_nodeA Np) (NP_nodeB Np) (NP_nodeC Np) (NP_nodeNext Np) (NP_low Np) (NP_high Np) (NP_setFrom Np) (NP_setTo Np) (NP_setNot Np) (NP_nodes Np) (NP_sets Np) (NP_ranges Np) ((NP_pat Np) + (1:Int32)) (NP_patEnd Np) (1:Int32)) No Nx Nf Na Nh Nq Nj tc M1)) C in_MM t_MM t_MM_ok n_MM hP (hDD _ _ _ _ _ _ _ _ _ _ _ _) hS 0 mw_0 rfl 32 (by decide) k_8_22 rfl rfl (by decide +kernel) rfl rfl (Nat.le_of_ble_eq_true rfl) rfl d_MM_escape_477 (fun H locs hP hS => ?_)
    refine lv_iconst (v := (0:Int32)) hx hb d_MM_escape_480 (by decide) ?_
    cases h
    exact o_ri (v := (0:Int32)) C hP hS d_MM_escape_481
  replace h := o_ff c48 h
  by_cases c49 : q1 = (82:Int32)
  · replace h := o_tt c49 h
    refine lv_tableIn (off := 458) (tgt := 475) hx hb d_MM_escape_17 (by rw [c49]; decide) (by rw [c49]; decide) (by rw [c49]; rfl) (by decide) ?_
    refine lv_aload_n hx hb d_MM_escape_475 rfl (lv_at hl 1 rfl) ?_
    refine lv_iconst (v := (1:Int32)) hx hb d_MM_escape_476 (by decide) ?_
    refine o_put (v := .int (1:Int32)) (ty := .boolean) (w1 := (m_cw ad ca ky ty 33 Ni (NP_mk (NP_nodeKind Np) (NP_nodeA Np) (NP_nodeB Np) (NP_nodeC Np) (NP_nodeNext Np) (NP_low Np) (NP_high Np) (NP_setFrom Np) (NP_setTo Np) (NP_setNot Np) (NP_nodes Np) (NP_sets Np) (NP_ranges Np) ((NP_pat Np) + (1:Int32)) (NP_patEnd Np) (1:Int32)) No Nx Nf Na Nh Nq Nj tc M1)) C in_MM t_MM t_MM_ok n_MM hP (hDD _ _ _ _ _ _ _ _ _ _ _ _) hS 0 mw_0 rfl 32 (by decide) k_8_22 rfl rfl (by decide +kernel) rfl rfl (Nat.le_of_ble_eq_true rfl) rfl d_MM_escape_477 (fun H locs hP hS => ?_)
    refine lv_iconst (v := (0:Int32)) hx hb d_MM_escape_480 (by decide) ?_
    cases h
    exact o_ri (v := (0:Int32)) C hP hS d_MM_escape_481
  replace h := o_ff c49 h
  by_cases c50 : q1 = (83:Int32)
  · replace h := o_tt c50 h
    refine lv_tableIn (off := 375) (tgt := 392) hx hb d_MM_escape_17 (by rw [c50]; decide) (by rw [c50]; decide) (by rw [c50]; rfl) (by decide) ?_
    refine lv_aload_n hx hb d_MM_escape_392 rfl (lv_at hl 1 rfl) ?_
    refine lv_iload_n hx hb d_MM_escape_393 rfl (lv_at hl 0 rfl) ?_
    obtain ⟨q5, hq5, h⟩ := o_bd_some h
    refine o_V (st1 := []) (w1 := (m_cw ad ca ky ty 33 Ni q5 No Nx Nf Na Nh Nq Nj tc M1)) hE.1 C (e_MM_set hE hKy l n q1 (NP_mk (NP_nodeKind Np) (NP_nodeA Np) (NP_nodeB Np) (NP_nodeC Np) (NP_nodeNext Np) (NP_low Np) (NP_high Np) (NP_setFrom Np) (NP_setTo Np) (NP_setNot Np) (NP_nodes Np) (NP_sets Np) (NP_ranges Np) ((NP_pat Np) + (1:Int32)) (NP_patEnd Np) (NP_broken Np)) Ni No Nx Nf Na Nh Nq Nj tc M1 33 hq5) hP (hDD _ _ _ _ _ _ _ _ _ _ _ _) hS hl.1 rfl mw_0 k_9_98 k_9_100 k_s_96 k_1_12 k_9_101 hv_MM_set rfl rfl ⟨(Nat.le_of_ble_eq_true rfl), (Nat.le_of_ble_eq_true rfl)⟩ rfl (Nat.le_of_ble_eq_true rfl) ⟨Nat.zero_le _, Nat.zero_le _⟩ rfl d_MM_escape_394 (fun H locs hP hS => ?_)
    refine lv_iconst (v := (-1:Int32)) hx hb d_MM_escape_397 (by decide) ?_
    cases h
    exact o_ri (v := (-1:Int32)) C hP hS d_MM_escape_398
  replace h := o_ff c50 h
  by_cases c51 : q1 = (84:Int32)
  · replace h := o_tt c51 h
    refine lv_tableIn (off := 458) (tgt := 475) hx hb d_MM_escape_17 (by rw [c51]; decide) (by rw [c51]; decide) (by rw [c51]; rfl) (by decide) ?_
    refine lv_aload_n hx hb d_MM_escape_475 rfl (lv_at hl 1 rfl) ?_
    refine lv_iconst (v := (1:Int32)) hx hb d_MM_escape_476 (by decide) ?_
    refine o_put (v := .int (1:Int32)) (ty := .boolean) (w1 := (m_cw ad ca ky ty 33 Ni (NP_mk (NP_nodeKind Np) (NP_nodeA Np) (NP_nodeB Np) (NP_nodeC Np) (NP_nodeNext Np) (NP_low Np) (NP_high Np) (NP_setFrom Np) (NP_setTo Np) (NP_setNot Np) (NP_nodes Np) (NP_sets Np) (NP_ranges Np) ((NP_pat Np) + (1:Int32)) (NP_patEnd Np) (1:Int32)) No Nx Nf Na Nh Nq Nj tc M1)) C in_MM t_MM t_MM_ok n_MM hP (hDD _ _ _ _ _ _ _ _ _ _ _ _) hS 0 mw_0 rfl 32 (by decide) k_8_22 rfl rfl (by decide +kernel) rfl rfl (Nat.le_of_ble_eq_true rfl) rfl d_MM_escape_477 (fun H locs hP hS => ?_)
    refine lv_iconst (v := (0:Int32)) hx hb d_MM_escape_480 (by decide) ?_
    cases h
    exact o_ri (v := (0:Int32)) C hP hS d_MM_escape_481
  replace h := o_ff c51 h
  by_cases c52 : q1 = (85:Int32)
  · replace h := o_tt c52 h
    refine lv_tableIn (off := 458) (tgt := 475) hx hb d_MM_escape_17 (by rw [c52]; decide) (by rw [c52]; decide) (by rw [c52]; rfl) (by decide) ?_
    refine lv_aload_n hx hb d_MM_escape_475 rfl (lv_at hl 1 rfl) ?_
    refine lv_iconst (v := (1:Int32)) hx hb d_MM_escape_476 (by decide) ?_
    refine o_put (v := .int (1:Int32)) (ty := .boolean) (w1 := (m_cw ad ca ky ty 33 Ni (NP_mk (NP_nodeKind Np) (NP_nodeA Np) (NP_nodeB Np) (NP_nodeC Np) (NP_nodeNext Np) (NP_low Np) (NP_high Np) (NP_setFrom Np) (NP_setTo Np) (NP_setNot Np) (NP_nodes Np) (NP_sets Np) (NP_ranges Np) ((NP_pat Np) + (1:Int32)) (NP_patEnd Np) (1:Int32)) No Nx Nf Na Nh Nq Nj tc M1)) C in_MM t_MM t_MM_ok n_MM hP (hDD _ _ _ _ _ _ _ _ _ _ _ _) hS 0 mw_0 rfl 32 (by decide) k_8_22 rfl rfl (by decide +kernel) rfl rfl (Nat.le_of_ble_eq_true rfl) rfl d_MM_escape_477 (fun H locs hP hS => ?_)
    refine lv_iconst (v := (0:Int32)) hx hb d_MM_escape_480 (by decide) ?_
    cases h
    exact o_ri (v := (0:Int32)) C hP hS d_MM_escape_481
  replace h := o_ff c52 h
  by_cases c53 : q1 = (86:Int32)
  · replace h := o_tt c53 h
    refine lv_tableIn (off := 458) (tgt := 475) hx hb d_MM_escape_17 (by rw [c53]; decide) (by rw [c53]; decide) (by rw [c53]; rfl) (by decide) ?_
    refine lv_aload_n hx hb d_MM_escape_475 rfl (lv_at hl 1 rfl) ?_
    refine lv_iconst (v := (1:Int32)) hx hb d_MM_escape_476 (by decide) ?_
    refine o_put (v := .int (1:Int32)) (ty := .boolean) (w1 := (m_cw ad ca ky ty 33 Ni (NP_mk (NP_nodeKind Np) (NP_nodeA Np) (NP_nodeB Np) (NP_nodeC Np) (NP_nodeNext Np) (NP_low Np) (NP_high Np) (NP_setFrom Np) (NP_setTo Np) (NP_setNot Np) (NP_nodes Np) (NP_sets Np) (NP_ranges Np) ((NP_pat Np) + (1:Int32)) (NP_patEnd Np) (1:Int32)) No Nx Nf Na Nh Nq Nj tc M1)) C in_MM t_MM t_MM_ok n_MM hP (hDD _ _ _ _ _ _ _ _ _ _ _ _) hS 0 mw_0 rfl 32 (by decide) k_8_22 rfl rfl (by decide +kernel) rfl rfl (Nat.le_of_ble_eq_true rfl) rfl d_MM_escape_477 (fun H locs hP hS => ?_)
    refine lv_iconst (v := (0:Int32)) hx hb d_MM_escape_480 (by decide) ?_
    cases h
    exact o_ri (v := (0:Int32)) C hP hS d_MM_escape_481
  replace h := o_ff c53 h
  by_cases c54 : q1 = (87:Int32)
  · replace h := o_tt c54 h
    refine lv_tableIn (off := 375) (tgt := 392) hx hb d_MM_escape_17 (by rw [c54]; decide) (by rw [c54]; decide) (by rw [c54]; rfl) (by decide) ?_
    refine lv_aload_n hx hb d_MM_escape_392 rfl (lv_at hl 1 rfl) ?_
    refine lv_iload_n hx hb d_MM_escape_393 rfl (lv_at hl 0 rfl) ?_
    obtain ⟨q6, hq6, h⟩ := o_bd_some h
    refine o_V (st1 := []) (w1 := (m_cw ad ca ky ty 33 Ni q6 No Nx Nf Na Nh Nq Nj tc M1)) hE.1 C (e_MM_set hE hKy l n q1 (NP_mk (NP_nodeKind Np) (NP_nodeA Np) (NP_nodeB Np) (NP_nodeC Np) (NP_nodeNext Np) (NP_low Np) (NP_high Np) (NP_setFrom Np) (NP_setTo Np) (NP_setNot Np) (NP_nodes Np) (NP_sets Np) (NP_ranges Np) ((NP_pat Np) + (1:Int32)) (NP_patEnd Np) (NP_broken Np)) Ni No Nx Nf Na Nh Nq Nj tc M1 33 hq6) hP (hDD _ _ _ _ _ _ _ _ _ _ _ _) hS hl.1 rfl mw_0 k_9_98 k_9_100 k_s_96 k_1_12 k_9_101 hv_MM_set rfl rfl ⟨(Nat.le_of_ble_eq_true rfl), (Nat.le_of_ble_eq_true rfl)⟩ rfl (Nat.le_of_ble_eq_true rfl) ⟨Nat.zero_le _, Nat.zero_le _⟩ rfl d_MM_escape_394 (fun H locs hP hS => ?_)
    refine lv_iconst (v := (-1:Int32)) hx hb d_MM_escape_397 (by decide) ?_
    cases h
    exact o_ri (v := (-1:Int32)) C hP hS d_MM_escape_398
  replace h := o_ff c54 h
  by_cases c55 : q1 = (88:Int32)
  · replace h := o_tt c55 h
    refine lv_tableIn (off := 458) (tgt := 475) hx hb d_MM_escape_17 (by rw [c55]; decide) (by rw [c55]; decide) (by rw [c55]; rfl) (by decide) ?_
    refine lv_aload_n hx hb d_MM_escape_475 rfl (lv_at hl 1 rfl) ?_
    refine lv_iconst (v := (1:Int32)) hx hb d_MM_escape_476 (by decide) ?_
    refine o_put (v := .int (1:Int32)) (ty := .boolean) (w1 := (m_cw ad ca ky ty 33 Ni (NP_mk (NP_nodeKind Np) (NP_nodeA Np) (NP_nodeB Np) (NP_nodeC Np) (NP_nodeNext Np) (NP_low Np) (NP_high Np) (NP_setFrom Np) (NP_setTo Np) (NP_setNot Np) (NP_nodes Np) (NP_sets Np) (NP_ranges Np) ((NP_pat Np) + (1:Int32)) (NP_patEnd Np) (1:Int32)) No Nx Nf Na Nh Nq Nj tc M1)) C in_MM t_MM t_MM_ok n_MM hP (hDD _ _ _ _ _ _ _ _ _ _ _ _) hS 0 mw_0 rfl 32 (by decide) k_8_22 rfl rfl (by decide +kernel) rfl rfl (Nat.le_of_ble_eq_true rfl) rfl d_MM_escape_477 (fun H locs hP hS => ?_)
    refine lv_iconst (v := (0:Int32)) hx hb d_MM_escape_480 (by decide) ?_
    cases h
    exact o_ri (v := (0:Int32)) C hP hS d_MM_escape_481
  replace h := o_ff c55 h
  by_cases c56 : q1 = (89:Int32)
  · replace h := o_tt c56 h
    refine lv_tableIn (off := 458) (tgt := 475) hx hb d_MM_escape_17 (by rw [c56]; decide) (by rw [c56]; decide) (by rw [c56]; rfl) (by decide) ?_
    refine lv_aload_n hx hb d_MM_escape_475 rfl (lv_at hl 1 rfl) ?_
    refine lv_iconst (v := (1:Int32)) hx hb d_MM_escape_476 (by decide) ?_
    refine o_put (v := .int (1:Int32)) (ty := .boolean) (w1 := (m_cw ad ca ky ty 33 Ni (NP_mk (NP_nodeKind Np) (NP_nodeA Np) (NP_nodeB Np) (NP_nodeC Np) (NP_nodeNext Np) (NP_low Np) (NP_high Np) (NP_setFrom Np) (NP_setTo Np) (NP_setNot Np) (NP_nodes Np) (NP_sets Np) (NP_ranges Np) ((NP_pat Np) + (1:Int32)) (NP_patEnd Np) (1:Int32)) No Nx Nf Na Nh Nq Nj tc M1)) C in_MM t_MM t_MM_ok n_MM hP (hDD _ _ _ _ _ _ _ _ _ _ _ _) hS 0 mw_0 rfl 32 (by decide) k_8_22 rfl rfl (by decide +kernel) rfl rfl (Nat.le_of_ble_eq_true rfl) rfl d_MM_escape_477 (fun H locs hP hS => ?_)
    refine lv_iconst (v := (0:Int32)) hx hb d_MM_escape_480 (by decide) ?_
    cases h
    exact o_ri (v := (0:Int32)) C hP hS d_MM_escape_481
  replace h := o_ff c56 h
  by_cases c57 : q1 = (90:Int32)
  · replace h := o_tt c57 h
    refine lv_tableIn (off := 458) (tgt := 475) hx hb d_MM_escape_17 (by rw [c57]; decide) (by rw [c57]; decide) (by rw [c57]; rfl) (by decide) ?_
    refine lv_aload_n hx hb d_MM_escape_475 rfl (lv_at hl 1 rfl) ?_
    refine lv_iconst (v := (1:Int32)) hx hb d_MM_escape_476 (by decide) ?_
    refine o_put (v := .int (1:Int32)) (ty := .boolean) (w1 := (m_cw ad ca ky ty 33 Ni (NP_mk (NP_nodeKind Np) (NP_nodeA Np) (NP_nodeB Np) (NP_nodeC Np) (NP_nodeNext Np) (NP_low Np) (NP_high Np) (NP_setFrom Np) (NP_setTo Np) (NP_setNot Np) (NP_nodes Np) (NP_sets Np) (NP_ranges Np) ((NP_pat Np) + (1:Int32)) (NP_patEnd Np) (1:Int32)) No Nx Nf Na Nh Nq Nj tc M1)) C in_MM t_MM t_MM_ok n_MM hP (hDD _ _ _ _ _ _ _ _ _ _ _ _) hS 0 mw_0 rfl 32 (by decide) k_8_22 rfl rfl (by decide +kernel) rfl rfl (Nat.le_of_ble_eq_true rfl) rfl d_MM_escape_477 (fun H locs hP hS => ?_)
    refine lv_iconst (v := (0:Int32)) hx hb d_MM_escape_480 (by decide) ?_
    cases h
    exact o_ri (v := (0:Int32)) C hP hS d_MM_escape_481
  replace h := o_ff c57 h
  by_cases c58 : q1 = (91:Int32)
  · replace h := o_tt c58 h
    refine lv_tableIn (off := 456) (tgt := 473) hx hb d_MM_escape_17 (by rw [c58]; decide) (by rw [c58]; decide) (by rw [c58]; rfl) (by decide) ?_
    refine lv_iload_n hx hb d_MM_escape_473 rfl (lv_at hl 0 rfl) ?_
    cases h
    exact o_ri C hP hS d_MM_escape_474
  replace h := o_ff c58 h
  by_cases c59 : q1 = (92:Int32)
  · replace h := o_tt c59 h
    refine lv_tableIn (off := 456) (tgt := 473) hx hb d_MM_escape_17 (by rw [c59]; decide) (by rw [c59]; decide) (by rw [c59]; rfl) (by decide) ?_
    refine lv_iload_n hx hb d_MM_escape_473 rfl (lv_at hl 0 rfl) ?_
    cases h
    exact o_ri C hP hS d_MM_escape_474
  replace h := o_ff c59 h
  by_cases c60 : q1 = (93:Int32)
  · replace h := o_tt c60 h
    refine lv_tableIn (off := 456) (tgt := 473) hx hb d_MM_escape_17 (by rw [c60]; decide) (by rw [c60]; decide) (by rw [c60]; rfl) (by decide) ?_
    refine lv_iload_n hx hb d_MM_escape_473 rfl (lv_at hl 0 rfl) ?_
    cases h
    exact o_ri C hP hS d_MM_escape_474
  replace h := o_ff c60 h
  by_cases c61 : q1 = (94:Int32)
  · replace h := o_tt c61 h
    refine lv_tableIn (off := 456) (tgt := 473) hx hb d_MM_escape_17 (by rw [c61]; decide) (by rw [c61]; decide) (by rw [c61]; rfl) (by decide) ?_
    refine lv_iload_n hx hb d_MM_escape_473 rfl (lv_at hl 0 rfl) ?_
    cases h
    exact o_ri C hP hS d_MM_escape_474
  replace h := o_ff c61 h
  by_cases c62 : q1 = (95:Int32)
  · replace h := o_tt c62 h
    refine lv_tableIn (off := 458) (tgt := 475) hx hb d_MM_escape_17 (by rw [c62]; decide) (by rw [c62]; decide) (by rw [c62]; rfl) (by decide) ?_
    refine lv_aload_n hx hb d_MM_escape_475 rfl (lv_at hl 1 rfl) ?_
    refine lv_iconst (v := (1:Int32)) hx hb d_MM_escape_476 (by decide) ?_
    refine o_put (v := .int (1:Int32)) (ty := .boolean) (w1 := (m_cw ad ca ky ty 33 Ni (NP_mk (NP_nodeKind Np) (NP_nodeA Np) (NP_nodeB Np) (NP_nodeC Np) (NP_nodeNext Np) (NP_low Np) (NP_high Np) (NP_setFrom Np) (NP_setTo Np) (NP_setNot Np) (NP_nodes Np) (NP_sets Np) (NP_ranges Np) ((NP_pat Np) + (1:Int32)) (NP_patEnd Np) (1:Int32)) No Nx Nf Na Nh Nq Nj tc M1)) C in_MM t_MM t_MM_ok n_MM hP (hDD _ _ _ _ _ _ _ _ _ _ _ _) hS 0 mw_0 rfl 32 (by decide) k_8_22 rfl rfl (by decide +kernel) rfl rfl (Nat.le_of_ble_eq_true rfl) rfl d_MM_escape_477 (fun H locs hP hS => ?_)
    refine lv_iconst (v := (0:Int32)) hx hb d_MM_escape_480 (by decide) ?_
    cases h
    exact o_ri (v := (0:Int32)) C hP hS d_MM_escape_481
  replace h := o_ff c62 h
  by_cases c63 : q1 = (96:Int32)
  · replace h := o_tt c63 h
    refine lv_tableIn (off := 458) (tgt := 475) hx hb d_MM_escape_17 (by rw [c63]; decide) (by rw [c63]; decide) (by rw [c63]; rfl) (by decide) ?_
    refine lv_aload_n hx hb d_MM_escape_475 rfl (lv_at hl 1 rfl) ?_
    refine lv_iconst (v := (1:Int32)) hx hb d_MM_escape_476 (by decide) ?_
    refine o_put (v := .int (1:Int32)) (ty := .boolean) (w1 := (m_cw ad ca ky ty 33 Ni (NP_mk (NP_nodeKind Np) (NP_nodeA Np) (NP_nodeB Np) (NP_nodeC Np) (NP_nodeNext Np) (NP_low Np) (NP_high Np) (NP_setFrom Np) (NP_setTo Np) (NP_setNot Np) (NP_nodes Np) (NP_sets Np) (NP_ranges Np) ((NP_pat Np) + (1:Int32)) (NP_patEnd Np) (1:Int32)) No Nx Nf Na Nh Nq Nj tc M1)) C in_MM t_MM t_MM_ok n_MM hP (hDD _ _ _ _ _ _ _ _ _ _ _ _) hS 0 mw_0 rfl 32 (by decide) k_8_22 rfl rfl (by decide +kernel) rfl rfl (Nat.le_of_ble_eq_true rfl) rfl d_MM_escape_477 (fun H locs hP hS => ?_)
    refine lv_iconst (v := (0:Int32)) hx hb d_MM_escape_480 (by decide) ?_
    cases h
    exact o_ri (v := (0:Int32)) C hP hS d_MM_escape_481
  replace h := o_ff c63 h
  by_cases c64 : q1 = (97:Int32)
  · replace h := o_tt c64 h
    refine lv_tableIn (off := 458) (tgt := 475) hx hb d_MM_escape_17 (by rw [c64]; decide) (by rw [c64]; decide) (by rw [c64]; rfl) (by decide) ?_
    refine lv_aload_n hx hb d_MM_escape_475 rfl (lv_at hl 1 rfl) ?_
    refine lv_iconst (v := (1:Int32)) hx hb d_MM_escape_476 (by decide) ?_
    refine o_put (v := .int (1:Int32)) (ty := .boolean) (w1 := (m_cw ad ca ky ty 33 Ni (NP_mk (NP_nodeKind Np) (NP_nodeA Np) (NP_nodeB Np) (NP_nodeC Np) (NP_nodeNext Np) (NP_low Np) (NP_high Np) (NP_setFrom Np) (NP_setTo Np) (NP_setNot Np) (NP_nodes Np) (NP_sets Np) (NP_ranges Np) ((NP_pat Np) + (1:Int32)) (NP_patEnd Np) (1:Int32)) No Nx Nf Na Nh Nq Nj tc M1)) C in_MM t_MM t_MM_ok n_MM hP (hDD _ _ _ _ _ _ _ _ _ _ _ _) hS 0 mw_0 rfl 32 (by decide) k_8_22 rfl rfl (by decide +kernel) rfl rfl (Nat.le_of_ble_eq_true rfl) rfl d_MM_escape_477 (fun H locs hP hS => ?_)
    refine lv_iconst (v := (0:Int32)) hx hb d_MM_escape_480 (by decide) ?_
    cases h
    exact o_ri (v := (0:Int32)) C hP hS d_MM_escape_481
  replace h := o_ff c64 h
  by_cases c65 : q1 = (98:Int32)
  · replace h := o_tt c65 h
    refine lv_tableIn (off := 430) (tgt := 447) hx hb d_MM_escape_17 (by rw [c65]; decide) (by rw [c65]; decide) (by rw [c65]; rfl) (by decide) ?_
    refine lv_iload_n hx hb d_MM_escape_447 rfl (lv_at hl 2 rfl) ?_
    refine lv_if_eq (tgt := 454) hx hb d_MM_escape_448 (by decide) (fun c66 => ?_) (fun c66 => ?_)
    · replace h := o_tt c66 h
      refine lv_aload_n hx hb d_MM_escape_454 rfl (lv_at hl 1 rfl) ?_
      refine lv_iconst (v := (1:Int32)) hx hb d_MM_escape_455 (by decide) ?_
      refine o_put (v := .int (1:Int32)) (ty := .boolean) (w1 := (m_cw ad ca ky ty 33 Ni (NP_mk (NP_nodeKind Np) (NP_nodeA Np) (NP_nodeB Np) (NP_nodeC Np) (NP_nodeNext Np) (NP_low Np) (NP_high Np) (NP_setFrom Np) (NP_setTo Np) (NP_setNot Np) (NP_nodes Np) (NP_sets Np) (NP_ranges Np) ((NP_pat Np) + (1:Int32)) (NP_patEnd Np) (1:Int32)) No Nx Nf Na Nh Nq Nj tc M1)) C in_MM t_MM t_MM_ok n_MM hP (hDD _ _ _ _ _ _ _ _ _ _ _ _) hS 0 mw_0 rfl 32 (by decide) k_8_22 rfl rfl (by decide +kernel) rfl rfl (Nat.le_of_ble_eq_true rfl) rfl d_MM_escape_456 (fun H locs hP hS => ?_)
      refine lv_iconst (v := (0:Int32)) hx hb d_MM_escape_459 (by decide) ?_
      cases h
      exact o_ri (v := (0:Int32)) C hP hS d_MM_escape_460
    · replace h := o_ff c66 h
      refine lv_bipush (v := (8:Int32)) hx hb d_MM_escape_451 (by decide) ?_
      cases h
      exact o_ri (v := (8:Int32)) C hP hS d_MM_escape_453
  replace h := o_ff c65 h
  by_cases c67 : q1 = (99:Int32)
  · replace h := o_tt c67 h
    refine lv_tableIn (off := 458) (tgt := 475) hx hb d_MM_escape_17 (by rw [c67]; decide) (by rw [c67]; decide) (by rw [c67]; rfl) (by decide) ?_
    refine lv_aload_n hx hb d_MM_escape_475 rfl (lv_at hl 1 rfl) ?_
    refine lv_iconst (v := (1:Int32)) hx hb d_MM_escape_476 (by decide) ?_
    refine o_put (v := .int (1:Int32)) (ty := .boolean) (w1 := (m_cw ad ca ky ty 33 Ni (NP_mk (NP_nodeKind Np) (NP_nodeA Np) (NP_nodeB Np) (NP_nodeC Np) (NP_nodeNext Np) (NP_low Np) (NP_high Np) (NP_setFrom Np) (NP_setTo Np) (NP_setNot Np) (NP_nodes Np) (NP_sets Np) (NP_ranges Np) ((NP_pat Np) + (1:Int32)) (NP_patEnd Np) (1:Int32)) No Nx Nf Na Nh Nq Nj tc M1)) C in_MM t_MM t_MM_ok n_MM hP (hDD _ _ _ _ _ _ _ _ _ _ _ _) hS 0 mw_0 rfl 32 (by decide) k_8_22 rfl rfl (by decide +kernel) rfl rfl (Nat.le_of_ble_eq_true rfl) rfl d_MM_escape_477 (fun H locs hP hS => ?_)
    refine lv_iconst (v := (0:Int32)) hx hb d_MM_escape_480 (by decide) ?_
    cases h
    exact o_ri (v := (0:Int32)) C hP hS d_MM_escape_481
  replace h := o_ff c67 h
  by_cases c68 : q1 = (100:Int32)
  · replace h := o_tt c68 h
    refine lv_tableIn (off := 375) (tgt := 392) hx hb d_MM_escape_17 (by rw [c68]; decide) (by rw [c68]; decide) (by rw [c68]; rfl) (by decide) ?_
    refine lv_aload_n hx hb d_MM_escape_392 rfl (lv_at hl 1 rfl) ?_
    refine lv_iload_n hx hb d_MM_escape_393 rfl (lv_at hl 0 rfl) ?_
    obtain ⟨q7, hq7, h⟩ := o_bd_some h
    refine o_V (st1 := []) (w1 := (m_cw ad ca ky ty 33 Ni q7 No Nx Nf Na Nh Nq Nj tc M1)) hE.1 C (e_MM_set hE hKy l n q1 (NP_mk (NP_nodeKind Np) (NP_nodeA Np) (NP_nodeB Np) (NP_nodeC Np) (NP_nodeNext Np) (NP_low Np) (NP_high Np) (NP_setFrom Np) (NP_setTo Np) (NP_setNot Np) (NP_nodes Np) (NP_sets Np) (NP_ranges Np) ((NP_pat Np) + (1:Int32)) (NP_patEnd Np) (NP_broken Np)) Ni No Nx Nf Na Nh Nq Nj tc M1 33 hq7) hP (hDD _ _ _ _ _ _ _ _ _ _ _ _) hS hl.1 rfl mw_0 k_9_98 k_9_100 k_s_96 k_1_12 k_9_101 hv_MM_set rfl rfl ⟨(Nat.le_of_ble_eq_true rfl), (Nat.le_of_ble_eq_true rfl)⟩ rfl (Nat.le_of_ble_eq_true rfl) ⟨Nat.zero_le _, Nat.zero_le _⟩ rfl d_MM_escape_394 (fun H locs hP hS => ?_)
    refine lv_iconst (v := (-1:Int32)) hx hb d_MM_escape_397 (by decide) ?_
    cases h
    exact o_ri (v := (-1:Int32)) C hP hS d_MM_escape_398
  replace h := o_ff c68 h
  by_cases c69 : q1 = (101:Int32)
  · replace h := o_tt c69 h
    refine lv_tableIn (off := 458) (tgt := 475) hx hb d_MM_escape_17 (by rw [c69]; decide) (by rw [c69]; decide) (by rw [c69]; rfl) (by decide) ?_
    refine lv_aload_n hx hb d_MM_escape_475 rfl (lv_at hl 1 rfl) ?_
    refine lv_iconst (v := (1:Int32)) hx hb d_MM_escape_476 (by decide) ?_
    refine o_put (v := .int (1:Int32)) (ty := .boolean) (w1 := (m_cw ad ca ky ty 33 Ni (NP_mk (NP_nodeKind Np) (NP_nodeA Np) (NP_nodeB Np) (NP_nodeC Np) (NP_nodeNext Np) (NP_low Np) (NP_high Np) (NP_setFrom Np) (NP_setTo Np) (NP_setNot Np) (NP_nodes Np) (NP_sets Np) (NP_ranges Np) ((NP_pat Np) + (1:Int32)) (NP_patEnd Np) (1:Int32)) No Nx Nf Na Nh Nq Nj tc M1)) C in_MM t_MM t_MM_ok n_MM hP (hDD _ _ _ _ _ _ _ _ _ _ _ _) hS 0 mw_0 rfl 32 (by decide) k_8_22 rfl rfl (by decide +kernel) rfl rfl (Nat.le_of_ble_eq_true rfl) rfl d_MM_escape_477 (fun H locs hP hS => ?_)
    refine lv_iconst (v := (0:Int32)) hx hb d_MM_escape_480 (by decide) ?_
    cases h
    exact o_ri (v := (0:Int32)) C hP hS d_MM_escape_481
  replace h := o_ff c69 h
  by_cases c70 : q1 = (102:Int32)
  · replace h := o_tt c70 h
    refine lv_tableIn (off := 391) (tgt := 408) hx hb d_MM_escape_17 (by rw [c70]; decide) (by rw [c70]; decide) (by rw [c70]; rfl) (by decide) ?_
    refine lv_bipush (v := (12:Int32)) hx hb d_MM_escape_408 (by decide) ?_
    cases h
    exact o_ri (v := (12:Int32)) C hP hS d_MM_escape_410
  replace h := o_ff c70 h
  by_cases c71 : q1 = (103:Int32)
  · replace h := o_tt c71 h
    refine lv_tableIn (off := 458) (tgt := 475) hx hb d_MM_escape_17 (by rw [c71]; decide) (by rw [c71]; decide) (by rw [c71]; rfl) (by decide) ?_
    refine lv_aload_n hx hb d_MM_escape_475 rfl (lv_at hl 1 rfl) ?_
    refine lv_iconst (v := (1:Int32)) hx hb d_MM_escape_476 (by decide) ?_
    refine o_put (v := .int (1:Int32)) (ty := .boolean) (w1 := (m_cw ad ca ky ty 33 Ni (NP_mk (NP_nodeKind Np) (NP_nodeA Np) (NP_nodeB Np) (NP_nodeC Np) (NP_nodeNext Np) (NP_low Np) (NP_high Np) (NP_setFrom Np) (NP_setTo Np) (NP_setNot Np) (NP_nodes Np) (NP_sets Np) (NP_ranges Np) ((NP_pat Np) + (1:Int32)) (NP_patEnd Np) (1:Int32)) No Nx Nf Na Nh Nq Nj tc M1)) C in_MM t_MM t_MM_ok n_MM hP (hDD _ _ _ _ _ _ _ _ _ _ _ _) hS 0 mw_0 rfl 32 (by decide) k_8_22 rfl rfl (by decide +kernel) rfl rfl (Nat.le_of_ble_eq_true rfl) rfl d_MM_escape_477 (fun H locs hP hS => ?_)
    refine lv_iconst (v := (0:Int32)) hx hb d_MM_escape_480 (by decide) ?_
    cases h
    exact o_ri (v := (0:Int32)) C hP hS d_MM_escape_481
  replace h := o_ff c71 h
  by_cases c72 : q1 = (104:Int32)
  · replace h := o_tt c72 h
    refine lv_tableIn (off := 458) (tgt := 475) hx hb d_MM_escape_17 (by rw [c72]; decide) (by rw [c72]; decide) (by rw [c72]; rfl) (by decide) ?_
    refine lv_aload_n hx hb d_MM_escape_475 rfl (lv_at hl 1 rfl) ?_
    refine lv_iconst (v := (1:Int32)) hx hb d_MM_escape_476 (by decide) ?_
    refine o_put (v := .int (1:Int32)) (ty := .boolean) (w1 := (m_cw ad ca ky ty 33 Ni (NP_mk (NP_nodeKind Np) (NP_nodeA Np) (NP_nodeB Np) (NP_nodeC Np) (NP_nodeNext Np) (NP_low Np) (NP_high Np) (NP_setFrom Np) (NP_setTo Np) (NP_setNot Np) (NP_nodes Np) (NP_sets Np) (NP_ranges Np) ((NP_pat Np) + (1:Int32)) (NP_patEnd Np) (1:Int32)) No Nx Nf Na Nh Nq Nj tc M1)) C in_MM t_MM t_MM_ok n_MM hP (hDD _ _ _ _ _ _ _ _ _ _ _ _) hS 0 mw_0 rfl 32 (by decide) k_8_22 rfl rfl (by decide +kernel) rfl rfl (Nat.le_of_ble_eq_true rfl) rfl d_MM_escape_477 (fun H locs hP hS => ?_)
    refine lv_iconst (v := (0:Int32)) hx hb d_MM_escape_480 (by decide) ?_
    cases h
    exact o_ri (v := (0:Int32)) C hP hS d_MM_escape_481
  replace h := o_ff c72 h
  by_cases c73 : q1 = (105:Int32)
  · replace h := o_tt c73 h
    refine lv_tableIn (off := 458) (tgt := 475) hx hb d_MM_escape_17 (by rw [c73]; decide) (by rw [c73]; decide) (by rw [c73]; rfl) (by decide) ?_
    refine lv_aload_n hx hb d_MM_escape_475 rfl (lv_at hl 1 rfl) ?_
    refine lv_iconst (v := (1:Int32)) hx hb d_MM_escape_476 (by decide) ?_
    refine o_put (v := .int (1:Int32)) (ty := .boolean) (w1 := (m_cw ad ca ky ty 33 Ni (NP_mk (NP_nodeKind Np) (NP_nodeA Np) (NP_nodeB Np) (NP_nodeC Np) (NP_nodeNext Np) (NP_low Np) (NP_high Np) (NP_setFrom Np) (NP_setTo Np) (NP_setNot Np) (NP_nodes Np) (NP_sets Np) (NP_ranges Np) ((NP_pat Np) + (1:Int32)) (NP_patEnd Np) (1:Int32)) No Nx Nf Na Nh Nq Nj tc M1)) C in_MM t_MM t_MM_ok n_MM hP (hDD _ _ _ _ _ _ _ _ _ _ _ _) hS 0 mw_0 rfl 32 (by decide) k_8_22 rfl rfl (by decide +kernel) rfl rfl (Nat.le_of_ble_eq_true rfl) rfl d_MM_escape_477 (fun H locs hP hS => ?_)
    refine lv_iconst (v := (0:Int32)) hx hb d_MM_escape_480 (by decide) ?_
    cases h
    exact o_ri (v := (0:Int32)) C hP hS d_MM_escape_481
  replace h := o_ff c73 h
  by_cases c74 : q1 = (106:Int32)
  · replace h := o_tt c74 h
    refine lv_tableIn (off := 458) (tgt := 475) hx hb d_MM_escape_17 (by rw [c74]; decide) (by rw [c74]; decide) (by rw [c74]; rfl) (by decide) ?_
    refine lv_aload_n hx hb d_MM_escape_475 rfl (lv_at hl 1 rfl) ?_
    refine lv_iconst (v := (1:Int32)) hx hb d_MM_escape_476 (by decide) ?_
    refine o_put (v := .int (1:Int32)) (ty := .boolean) (w1 := (m_cw ad ca ky ty 33 Ni (NP_mk (NP_nodeKind Np) (NP_nodeA Np) (NP_nodeB Np) (NP_nodeC Np) (NP_nodeNext Np) (NP_low Np) (NP_high Np) (NP_setFrom Np) (NP_setTo Np) (NP_setNot Np) (NP_nodes Np) (NP_sets Np) (NP_ranges Np) ((NP_pat Np) + (1:Int32)) (NP_patEnd Np) (1:Int32)) No Nx Nf Na Nh Nq Nj tc M1)) C in_MM t_MM t_MM_ok n_MM hP (hDD _ _ _ _ _ _ _ _ _ _ _ _) hS 0 mw_0 rfl 32 (by decide) k_8_22 rfl rfl (by decide +kernel) rfl rfl (Nat.le_of_ble_eq_true rfl) rfl d_MM_escape_477 (fun H locs hP hS => ?_)
    refine lv_iconst (v := (0:Int32)) hx hb d_MM_escape_480 (by decide) ?_
    cases h
    exact o_ri (v := (0:Int32)) C hP hS d_MM_escape_481
  replace h := o_ff c74 h
  by_cases c75 : q1 = (107:Int32)
  · replace h := o_tt c75 h
    refine lv_tableIn (off := 458) (tgt := 475) hx hb d_MM_escape_17 (by rw [c75]; decide) (by rw [c75]; decide) (by rw [c75]; rfl) (by decide) ?_
    refine lv_aload_n hx hb d_MM_escape_475 rfl (lv_at hl 1 rfl) ?_
    refine lv_iconst (v := (1:Int32)) hx hb d_MM_escape_476 (by decide) ?_
    refine o_put (v := .int (1:Int32)) (ty := .boolean) (w1 := (m_cw ad ca ky ty 33 Ni (NP_mk (NP_nodeKind Np) (NP_nodeA Np) (NP_nodeB Np) (NP_nodeC Np) (NP_nodeNext Np) (NP_low Np) (NP_high Np) (NP_setFrom Np) (NP_setTo Np) (NP_setNot Np) (NP_nodes Np) (NP_sets Np) (NP_ranges Np) ((NP_pat Np) + (1:Int32)) (NP_patEnd Np) (1:Int32)) No Nx Nf Na Nh Nq Nj tc M1)) C in_MM t_MM t_MM_ok n_MM hP (hDD _ _ _ _ _ _ _ _ _ _ _ _) hS 0 mw_0 rfl 32 (by decide) k_8_22 rfl rfl (by decide +kernel) rfl rfl (Nat.le_of_ble_eq_true rfl) rfl d_MM_escape_477 (fun H locs hP hS => ?_)
    refine lv_iconst (v := (0:Int32)) hx hb d_MM_escape_480 (by decide) ?_
    cases h
    exact o_ri (v := (0:Int32)) C hP hS d_MM_escape_481
  replace h := o_ff c75 h
  by_cases c76 : q1 = (108:Int32)
  · replace h := o_tt c76 h
    refine lv_tableIn (off := 458) (tgt := 475) hx hb d_MM_escape_17 (by rw [c76]; decide) (by rw [c76]; decide) (by rw [c76]; rfl) (by decide) ?_
    refine lv_aload_n hx hb d_MM_escape_475 rfl (lv_at hl 1 rfl) ?_
    refine lv_iconst (v := (1:Int32)) hx hb d_MM_escape_476 (by decide) ?_
    refine o_put (v := .int (1:Int32)) (ty := .boolean) (w1 := (m_cw ad ca ky ty 33 Ni (NP_mk (NP_nodeKind Np) (NP_nodeA Np) (NP_nodeB Np) (NP_nodeC Np) (NP_nodeNext Np) (NP_low Np) (NP_high Np) (NP_setFrom Np) (NP_setTo Np) (NP_setNot Np) (NP_nodes Np) (NP_sets Np) (NP_ranges Np) ((NP_pat Np) + (1:Int32)) (NP_patEnd Np) (1:Int32)) No Nx Nf Na Nh Nq Nj tc M1)) C in_MM t_MM t_MM_ok n_MM hP (hDD _ _ _ _ _ _ _ _ _ _ _ _) hS 0 mw_0 rfl 32 (by decide) k_8_22 rfl rfl (by decide +kernel) rfl rfl (Nat.le_of_ble_eq_true rfl) rfl d_MM_escape_477 (fun H locs hP hS => ?_)
    refine lv_iconst (v := (0:Int32)) hx hb d_MM_escape_480 (by decide) ?_
    cases h
    exact o_ri (v := (0:Int32)) C hP hS d_MM_escape_481
  replace h := o_ff c76 h
  by_cases c77 : q1 = (109:Int32)
  · replace h := o_tt c77 h
    refine lv_tableIn (off := 458) (tgt := 475) hx hb d_MM_escape_17 (by rw [c77]; decide) (by rw [c77]; decide) (by rw [c77]; rfl) (by decide) ?_
    refine lv_aload_n hx hb d_MM_escape_475 rfl (lv_at hl 1 rfl) ?_
    refine lv_iconst (v := (1:Int32)) hx hb d_MM_escape_476 (by decide) ?_
    refine o_put (v := .int (1:Int32)) (ty := .boolean) (w1 := (m_cw ad ca ky ty 33 Ni (NP_mk (NP_nodeKind Np) (NP_nodeA Np) (NP_nodeB Np) (NP_nodeC Np) (NP_nodeNext Np) (NP_low Np) (NP_high Np) (NP_setFrom Np) (NP_setTo Np) (NP_setNot Np) (NP_nodes Np) (NP_sets Np) (NP_ranges Np) ((NP_pat Np) + (1:Int32)) (NP_patEnd Np) (1:Int32)) No Nx Nf Na Nh Nq Nj tc M1)) C in_MM t_MM t_MM_ok n_MM hP (hDD _ _ _ _ _ _ _ _ _ _ _ _) hS 0 mw_0 rfl 32 (by decide) k_8_22 rfl rfl (by decide +kernel) rfl rfl (Nat.le_of_ble_eq_true rfl) rfl d_MM_escape_477 (fun H locs hP hS => ?_)
    refine lv_iconst (v := (0:Int32)) hx hb d_MM_escape_480 (by decide) ?_
    cases h
    exact o_ri (v := (0:Int32)) C hP hS d_MM_escape_481
  replace h := o_ff c77 h
  by_cases c78 : q1 = (110:Int32)
  · replace h := o_tt c78 h
    refine lv_tableIn (off := 385) (tgt := 402) hx hb d_MM_escape_17 (by rw [c78]; decide) (by rw [c78]; decide) (by rw [c78]; rfl) (by decide) ?_
    refine lv_bipush (v := (10:Int32)) hx hb d_MM_escape_402 (by decide) ?_
    cases h
    exact o_ri (v := (10:Int32)) C hP hS d_MM_escape_404
  replace h := o_ff c78 h
  by_cases c79 : q1 = (111:Int32)
  · replace h := o_tt c79 h
    refine lv_tableIn (off := 458) (tgt := 475) hx hb d_MM_escape_17 (by rw [c79]; decide) (by rw [c79]; decide) (by rw [c79]; rfl) (by decide) ?_
    refine lv_aload_n hx hb d_MM_escape_475 rfl (lv_at hl 1 rfl) ?_
    refine lv_iconst (v := (1:Int32)) hx hb d_MM_escape_476 (by decide) ?_
    refine o_put (v := .int (1:Int32)) (ty := .boolean) (w1 := (m_cw ad ca ky ty 33 Ni (NP_mk (NP_nodeKind Np) (NP_nodeA Np) (NP_nodeB Np) (NP_nodeC Np) (NP_nodeNext Np) (NP_low Np) (NP_high Np) (NP_setFrom Np) (NP_setTo Np) (NP_setNot Np) (NP_nodes Np) (NP_sets Np) (NP_ranges Np) ((NP_pat Np) + (1:Int32)) (NP_patEnd Np) (1:Int32)) No Nx Nf Na Nh Nq Nj tc M1)) C in_MM t_MM t_MM_ok n_MM hP (hDD _ _ _ _ _ _ _ _ _ _ _ _) hS 0 mw_0 rfl 32 (by decide) k_8_22 rfl rfl (by decide +kernel) rfl rfl (Nat.le_of_ble_eq_true rfl) rfl d_MM_escape_477 (fun H locs hP hS => ?_)
    refine lv_iconst (v := (0:Int32)) hx hb d_MM_escape_480 (by decide) ?_
    cases h
    exact o_ri (v := (0:Int32)) C hP hS d_MM_escape_481
  replace h := o_ff c79 h
  by_cases c80 : q1 = (112:Int32)
  · replace h := o_tt c80 h
    refine lv_tableIn (off := 458) (tgt := 475) hx hb d_MM_escape_17 (by rw [c80]; decide) (by rw [c80]; decide) (by rw [c80]; rfl) (by decide) ?_
    refine lv_aload_n hx hb d_MM_escape_475 rfl (lv_at hl 1 rfl) ?_
    refine lv_iconst (v := (1:Int32)) hx hb d_MM_escape_476 (by decide) ?_
    refine o_put (v := .int (1:Int32)) (ty := .boolean) (w1 := (m_cw ad ca ky ty 33 Ni (NP_mk (NP_nodeKind Np) (NP_nodeA Np) (NP_nodeB Np) (NP_nodeC Np) (NP_nodeNext Np) (NP_low Np) (NP_high Np) (NP_setFrom Np) (NP_setTo Np) (NP_setNot Np) (NP_nodes Np) (NP_sets Np) (NP_ranges Np) ((NP_pat Np) + (1:Int32)) (NP_patEnd Np) (1:Int32)) No Nx Nf Na Nh Nq Nj tc M1)) C in_MM t_MM t_MM_ok n_MM hP (hDD _ _ _ _ _ _ _ _ _ _ _ _) hS 0 mw_0 rfl 32 (by decide) k_8_22 rfl rfl (by decide +kernel) rfl rfl (Nat.le_of_ble_eq_true rfl) rfl d_MM_escape_477 (fun H locs hP hS => ?_)
    refine lv_iconst (v := (0:Int32)) hx hb d_MM_escape_480 (by decide) ?_
    cases h
    exact o_ri (v := (0:Int32)) C hP hS d_MM_escape_481
  replace h := o_ff c80 h
  by_cases c81 : q1 = (113:Int32)
  · replace h := o_tt c81 h
    refine lv_tableIn (off := 458) (tgt := 475) hx hb d_MM_escape_17 (by rw [c81]; decide) (by rw [c81]; decide) (by rw [c81]; rfl) (by decide) ?_
    refine lv_aload_n hx hb d_MM_escape_475 rfl (lv_at hl 1 rfl) ?_
    refine lv_iconst (v := (1:Int32)) hx hb d_MM_escape_476 (by decide) ?_
    refine o_put (v := .int (1:Int32)) (ty := .boolean) (w1 := (m_cw ad ca ky ty 33 Ni (NP_mk (NP_nodeKind Np) (NP_nodeA Np) (NP_nodeB Np) (NP_nodeC Np) (NP_nodeNext Np) (NP_low Np) (NP_high Np) (NP_setFrom Np) (NP_setTo Np) (NP_setNot Np) (NP_nodes Np) (NP_sets Np) (NP_ranges Np) ((NP_pat Np) + (1:Int32)) (NP_patEnd Np) (1:Int32)) No Nx Nf Na Nh Nq Nj tc M1)) C in_MM t_MM t_MM_ok n_MM hP (hDD _ _ _ _ _ _ _ _ _ _ _ _) hS 0 mw_0 rfl 32 (by decide) k_8_22 rfl rfl (by decide +kernel) rfl rfl (Nat.le_of_ble_eq_true rfl) rfl d_MM_escape_477 (fun H locs hP hS => ?_)
    refine lv_iconst (v := (0:Int32)) hx hb d_MM_escape_480 (by decide) ?_
    cases h
    exact o_ri (v := (0:Int32)) C hP hS d_MM_escape_481
  replace h := o_ff c81 h
  by_cases c82 : q1 = (114:Int32)
  · replace h := o_tt c82 h
    refine lv_tableIn (off := 394) (tgt := 411) hx hb d_MM_escape_17 (by rw [c82]; decide) (by rw [c82]; decide) (by rw [c82]; rfl) (by decide) ?_
    refine lv_bipush (v := (13:Int32)) hx hb d_MM_escape_411 (by decide) ?_
    cases h
    exact o_ri (v := (13:Int32)) C hP hS d_MM_escape_413
  replace h := o_ff c82 h
  by_cases c83 : q1 = (115:Int32)
  · replace h := o_tt c83 h
    refine lv_tableIn (off := 375) (tgt := 392) hx hb d_MM_escape_17 (by rw [c83]; decide) (by rw [c83]; decide) (by rw [c83]; rfl) (by decide) ?_
    refine lv_aload_n hx hb d_MM_escape_392 rfl (lv_at hl 1 rfl) ?_
    refine lv_iload_n hx hb d_MM_escape_393 rfl (lv_at hl 0 rfl) ?_
    obtain ⟨q8, hq8, h⟩ := o_bd_some h
    refine o_V (st1 := []) (w1 := (m_cw ad ca ky ty 33 Ni q8 No Nx Nf Na Nh Nq Nj tc M1)) hE.1 C (e_MM_set hE hKy l n q1 (NP_mk (NP_nodeKind Np) (NP_nodeA Np) (NP_nodeB Np) (NP_nodeC Np) (NP_nodeNext Np) (NP_low Np) (NP_high Np) (NP_setFrom Np) (NP_setTo Np) (NP_setNot Np) (NP_nodes Np) (NP_sets Np) (NP_ranges Np) ((NP_pat Np) + (1:Int32)) (NP_patEnd Np) (NP_broken Np)) Ni No Nx Nf Na Nh Nq Nj tc M1 33 hq8) hP (hDD _ _ _ _ _ _ _ _ _ _ _ _) hS hl.1 rfl mw_0 k_9_98 k_9_100 k_s_96 k_1_12 k_9_101 hv_MM_set rfl rfl ⟨(Nat.le_of_ble_eq_true rfl), (Nat.le_of_ble_eq_true rfl)⟩ rfl (Nat.le_of_ble_eq_true rfl) ⟨Nat.zero_le _, Nat.zero_le _⟩ rfl d_MM_escape_394 (fun H locs hP hS => ?_)
    refine lv_iconst (v := (-1:Int32)) hx hb d_MM_escape_397 (by decide) ?_
    cases h
    exact o_ri (v := (-1:Int32)) C hP hS d_MM_escape_398
  replace h := o_ff c83 h
  by_cases c84 : q1 = (116:Int32)
  · replace h := o_tt c84 h
    refine lv_tableIn (off := 382) (tgt := 399) hx hb d_MM_escape_17 (by rw [c84]; decide) (by rw [c84]; decide) (by rw [c84]; rfl) (by decide) ?_
    refine lv_bipush (v := (9:Int32)) hx hb d_MM_escape_399 (by decide) ?_
    cases h
    exact o_ri (v := (9:Int32)) C hP hS d_MM_escape_401
  replace h := o_ff c84 h
  by_cases c85 : q1 = (117:Int32)
  · replace h := o_tt c85 h
    refine lv_tableIn (off := 425) (tgt := 442) hx hb d_MM_escape_17 (by rw [c85]; decide) (by rw [c85]; decide) (by rw [c85]; rfl) (by decide) ?_
    refine lv_aload_n hx hb d_MM_escape_442 rfl (lv_at hl 1 rfl) ?_
    obtain ⟨q9, hq9, h⟩ := o_bd_some h
    refine o_V (st1 := [.int q9.1]) (w1 := (m_cw ad ca ky ty 33 Ni q9.2 No Nx Nf Na Nh Nq Nj tc M1)) hE.1 C (e_MM_unicode_a hE hKy l n tc (NP_mk (NP_nodeKind Np) (NP_nodeA Np) (NP_nodeB Np) (NP_nodeC Np) (NP_nodeNext Np) (NP_low Np) (NP_high Np) (NP_setFrom Np) (NP_setTo Np) (NP_setNot Np) (NP_nodes Np) (NP_sets Np) (NP_ranges Np) ((NP_pat Np) + (1:Int32)) (NP_patEnd Np) (NP_broken Np)) Ni No Nx Nf Na Nh Nq Nj M1 hq9) hP (hDD _ _ _ _ _ _ _ _ _ _ _ _) hS hl.1 rfl mw_0 k_9_113 k_9_115 k_s_99 k_1_12 k_9_116 hv_MM_unicode rfl rfl ⟨(Nat.le_of_ble_eq_true rfl), (Nat.le_of_ble_eq_true rfl)⟩ rfl (Nat.le_of_ble_eq_true rfl) ⟨Nat.zero_le _, Nat.zero_le _⟩ rfl d_MM_escape_443 (fun H locs hP hS => ?_)
    cases h
    exact o_ri C hP hS d_MM_escape_446
  replace h := o_ff c85 h
  by_cases c86 : q1 = (118:Int32)
  · replace h := o_tt c86 h
    refine lv_tableIn (off := 388) (tgt := 405) hx hb d_MM_escape_17 (by rw [c86]; decide) (by rw [c86]; decide) (by rw [c86]; rfl) (by decide) ?_
    refine lv_bipush (v := (11:Int32)) hx hb d_MM_escape_405 (by decide) ?_
    cases h
    exact o_ri (v := (11:Int32)) C hP hS d_MM_escape_407
  replace h := o_ff c86 h
  by_cases c87 : q1 = (119:Int32)
  · replace h := o_tt c87 h
    refine lv_tableIn (off := 375) (tgt := 392) hx hb d_MM_escape_17 (by rw [c87]; decide) (by rw [c87]; decide) (by rw [c87]; rfl) (by decide) ?_
    refine lv_aload_n hx hb d_MM_escape_392 rfl (lv_at hl 1 rfl) ?_
    refine lv_iload_n hx hb d_MM_escape_393 rfl (lv_at hl 0 rfl) ?_
    obtain ⟨q10, hq10, h⟩ := o_bd_some h
    refine o_V (st1 := []) (w1 := (m_cw ad ca ky ty 33 Ni q10 No Nx Nf Na Nh Nq Nj tc M1)) hE.1 C (e_MM_set hE hKy l n q1 (NP_mk (NP_nodeKind Np) (NP_nodeA Np) (NP_nodeB Np) (NP_nodeC Np) (NP_nodeNext Np) (NP_low Np) (NP_high Np) (NP_setFrom Np) (NP_setTo Np) (NP_setNot Np) (NP_nodes Np) (NP_sets Np) (NP_ranges Np) ((NP_pat Np) + (1:Int32)) (NP_patEnd Np) (NP_broken Np)) Ni No Nx Nf Na Nh Nq Nj tc M1 33 hq10) hP (hDD _ _ _ _ _ _ _ _ _ _ _ _) hS hl.1 rfl mw_0 k_9_98 k_9_100 k_s_96 k_1_12 k_9_101 hv_MM_set rfl rfl ⟨(Nat.le_of_ble_eq_true rfl), (Nat.le_of_ble_eq_true rfl)⟩ rfl (Nat.le_of_ble_eq_true rfl) ⟨Nat.zero_le _, Nat.zero_le _⟩ rfl d_MM_escape_394 (fun H locs hP hS => ?_)
    refine lv_iconst (v := (-1:Int32)) hx hb d_MM_escape_397 (by decide) ?_
    cases h
    exact o_ri (v := (-1:Int32)) C hP hS d_MM_escape_398
  replace h := o_ff c87 h
  by_cases c88 : q1 = (120:Int32)
  · replace h := o_tt c88 h
    refine lv_tableIn (off := 419) (tgt := 436) hx hb d_MM_escape_17 (by rw [c88]; decide) (by rw [c88]; decide) (by rw [c88]; rfl) (by decide) ?_
    refine lv_aload_n hx hb d_MM_escape_436 rfl (lv_at hl 1 rfl) ?_
    refine lv_iconst (v := (2:Int32)) hx hb d_MM_escape_437 (by decide) ?_
    obtain ⟨q11, hq11, h⟩ := o_bd_some h
    refine o_V (st1 := [.int q11.1]) (w1 := (m_cw ad ca ky ty 33 Ni q11.2 No Nx Nf Na Nh Nq Nj tc M1)) hE.1 C (e_MM_hex_a hE hKy l n (2:Int32) tc (NP_mk (NP_nodeKind Np) (NP_nodeA Np) (NP_nodeB Np) (NP_nodeC Np) (NP_nodeNext Np) (NP_low Np) (NP_high Np) (NP_setFrom Np) (NP_setTo Np) (NP_setNot Np) (NP_nodes Np) (NP_sets Np) (NP_ranges Np) ((NP_pat Np) + (1:Int32)) (NP_patEnd Np) (NP_broken Np)) Ni No Nx Nf Na Nh Nq Nj M1 hq11) hP (hDD _ _ _ _ _ _ _ _ _ _ _ _) hS hl.1 rfl mw_0 k_9_108 k_9_110 k_s_98 k_1_12 k_9_111 hv_MM_hex rfl rfl ⟨(Nat.le_of_ble_eq_true rfl), (Nat.le_of_ble_eq_true rfl)⟩ rfl (Nat.le_of_ble_eq_true rfl) ⟨Nat.zero_le _, Nat.zero_le _⟩ rfl d_MM_escape_438 (fun H locs hP hS => ?_)
    cases h
    exact o_ri C hP hS d_MM_escape_441
  replace h := o_ff c88 h
  by_cases c89 : q1 = (121:Int32)
  · replace h := o_tt c89 h
    refine lv_tableIn (off := 458) (tgt := 475) hx hb d_MM_escape_17 (by rw [c89]; decide) (by rw [c89]; decide) (by rw [c89]; rfl) (by decide) ?_
    refine lv_aload_n hx hb d_MM_escape_475 rfl (lv_at hl 1 rfl) ?_
    refine lv_iconst (v := (1:Int32)) hx hb d_MM_escape_476 (by decide) ?_
    refine o_put (v := .int (1:Int32)) (ty := .boolean) (w1 := (m_cw ad ca ky ty 33 Ni (NP_mk (NP_nodeKind Np) (NP_nodeA Np) (NP_nodeB Np) (NP_nodeC Np) (NP_nodeNext Np) (NP_low Np) (NP_high Np) (NP_setFrom Np) (NP_setTo Np) (NP_setNot Np) (NP_nodes Np) (NP_sets Np) (NP_ranges Np) ((NP_pat Np) + (1:Int32)) (NP_patEnd Np) (1:Int32)) No Nx Nf Na Nh Nq Nj tc M1)) C in_MM t_MM t_MM_ok n_MM hP (hDD _ _ _ _ _ _ _ _ _ _ _ _) hS 0 mw_0 rfl 32 (by decide) k_8_22 rfl rfl (by decide +kernel) rfl rfl (Nat.le_of_ble_eq_true rfl) rfl d_MM_escape_477 (fun H locs hP hS => ?_)
    refine lv_iconst (v := (0:Int32)) hx hb d_MM_escape_480 (by decide) ?_
    cases h
    exact o_ri (v := (0:Int32)) C hP hS d_MM_escape_481
  replace h := o_ff c89 h
  by_cases c90 : q1 = (122:Int32)
  · replace h := o_tt c90 h
    refine lv_tableIn (off := 458) (tgt := 475) hx hb d_MM_escape_17 (by rw [c90]; decide) (by rw [c90]; decide) (by rw [c90]; rfl) (by decide) ?_
    refine lv_aload_n hx hb d_MM_escape_475 rfl (lv_at hl 1 rfl) ?_
    refine lv_iconst (v := (1:Int32)) hx hb d_MM_escape_476 (by decide) ?_
    refine o_put (v := .int (1:Int32)) (ty := .boolean) (w1 := (m_cw ad ca ky ty 33 Ni (NP_mk (NP_nodeKind Np) (NP_nodeA Np) (NP_nodeB Np) (NP_nodeC Np) (NP_nodeNext Np) (NP_low Np) (NP_high Np) (NP_setFrom Np) (NP_setTo Np) (NP_setNot Np) (NP_nodes Np) (NP_sets Np) (NP_ranges Np) ((NP_pat Np) + (1:Int32)) (NP_patEnd Np) (1:Int32)) No Nx Nf Na Nh Nq Nj tc M1)) C in_MM t_MM t_MM_ok n_MM hP (hDD _ _ _ _ _ _ _ _ _ _ _ _) hS 0 mw_0 rfl 32 (by decide) k_8_22 rfl rfl (by decide +kernel) rfl rfl (Nat.le_of_ble_eq_true rfl) rfl d_MM_escape_477 (fun H locs hP hS => ?_)
    refine lv_iconst (v := (0:Int32)) hx hb d_MM_escape_480 (by decide) ?_
    cases h
    exact o_ri (v := (0:Int32)) C hP hS d_MM_escape_481
  replace h := o_ff c90 h
  by_cases c91 : q1 = (123:Int32)
  · replace h := o_tt c91 h
    refine lv_tableIn (off := 456) (tgt := 473) hx hb d_MM_escape_17 (by rw [c91]; decide) (by rw [c91]; decide) (by rw [c91]; rfl) (by decide) ?_
    refine lv_iload_n hx hb d_MM_escape_473 rfl (lv_at hl 0 rfl) ?_
    cases h
    exact o_ri C hP hS d_MM_escape_474
  replace h := o_ff c91 h
  by_cases c92 : q1 = (124:Int32)
  · replace h := o_tt c92 h
    refine lv_tableIn (off := 456) (tgt := 473) hx hb d_MM_escape_17 (by rw [c92]; decide) (by rw [c92]; decide) (by rw [c92]; rfl) (by decide) ?_
    refine lv_iload_n hx hb d_MM_escape_473 rfl (lv_at hl 0 rfl) ?_
    cases h
    exact o_ri C hP hS d_MM_escape_474
  replace h := o_ff c92 h
  by_cases c93 : q1 = (125:Int32)
  · replace h := o_tt c93 h
    refine lv_tableIn (off := 456) (tgt := 473) hx hb d_MM_escape_17 (by rw [c93]; decide) (by rw [c93]; decide) (by rw [c93]; rfl) (by decide) ?_
    refine lv_iload_n hx hb d_MM_escape_473 rfl (lv_at hl 0 rfl) ?_
    cases h
    exact o_ri C hP hS d_MM_escape_474
  replace h := o_ff c93 h
  refine lv_tableOut (tgt := 475) hx hb d_MM_escape_17 (by have ec1 := o_ne_i (n := 36) (by decide) c1; have ec2 := o_ne_i (n := 37) (by decide) c2; have ec3 := o_ne_i (n := 38) (by decide) c3; have ec4 := o_ne_i (n := 39) (by decide) c4; have ec5 := o_ne_i (n := 40) (by decide) c5; have ec6 := o_ne_i (n := 41) (by decide) c6; have ec7 := o_ne_i (n := 42) (by decide) c7; have ec8 := o_ne_i (n := 43) (by decide) c8; have ec9 := o_ne_i (n := 44) (by decide) c9; have ec10 := o_ne_i (n := 45) (by decide) c10; have ec12 := o_ne_i (n := 46) (by decide) c12; have ec13 := o_ne_i (n := 47) (by decide) c13; have ec14 := o_ne_i (n := 48) (by decide) c14; have ec16 := o_ne_i (n := 49) (by decide) c16; have ec17 := o_ne_i (n := 50) (by decide) c17; have ec18 := o_ne_i (n := 51) (by decide) c18; have ec19 := o_ne_i (n := 52) (by decide) c19; have ec20 := o_ne_i (n := 53) (by decide) c20; have ec21 := o_ne_i (n := 54) (by decide) c21; have ec22 := o_ne_i (n := 55) (by decide) c22; have ec23 := o_ne_i (n := 56) (by decide) c23; have ec24 := o_ne_i (n := 57) (by decide) c24; have ec25 := o_ne_i (n := 58) (by decide) c25; have ec26 := o_ne_i (n := 59) (by decide) c26; have ec27 := o_ne_i (n := 60) (by decide) c27; have ec28 := o_ne_i (n := 61) (by decide) c28; have ec29 := o_ne_i (n := 62) (by decide) c29; have ec30 := o_ne_i (n := 63) (by decide) c30; have ec31 := o_ne_i (n := 64) (by decide) c31; have ec32 := o_ne_i (n := 65) (by decide) c32; have ec33 := o_ne_i (n := 66) (by decide) c33; have ec34 := o_ne_i (n := 67) (by decide) c34; have ec35 := o_ne_i (n := 68) (by decide) c35; have ec36 := o_ne_i (n := 69) (by decide) c36; have ec37 := o_ne_i (n := 70) (by decide) c37; have ec38 := o_ne_i (n := 71) (by decide) c38; have ec39 := o_ne_i (n := 72) (by decide) c39; have ec40 := o_ne_i (n := 73) (by decide) c40; have ec41 := o_ne_i (n := 74) (by decide) c41; have ec42 := o_ne_i (n := 75) (by decide) c42; have ec43 := o_ne_i (n := 76) (by decide) c43; have ec44 := o_ne_i (n := 77) (by decide) c44; have ec45 := o_ne_i (n := 78) (by decide) c45; have ec46 := o_ne_i (n := 79) (by decide) c46; have ec47 := o_ne_i (n := 80) (by decide) c47; have ec48 := o_ne_i (n := 81) (by decide) c48; have ec49 := o_ne_i (n := 82) (by decide) c49; have ec50 := o_ne_i (n := 83) (by decide) c50; have ec51 := o_ne_i (n := 84) (by decide) c51; have ec52 := o_ne_i (n := 85) (by decide) c52; have ec53 := o_ne_i (n := 86) (by decide) c53; have ec54 := o_ne_i (n := 87) (by decide) c54; have ec55 := o_ne_i (n := 88) (by decide) c55; have ec56 := o_ne_i (n := 89) (by decide) c56; have ec57 := o_ne_i (n := 90) (by decide) c57; have ec58 := o_ne_i (n := 91) (by decide) c58; have ec59 := o_ne_i (n := 92) (by decide) c59; have ec60 := o_ne_i (n := 93) (by decide) c60; have ec61 := o_ne_i (n := 94) (by decide) c61; have ec62 := o_ne_i (n := 95) (by decide) c62; have ec63 := o_ne_i (n := 96) (by decide) c63; have ec64 := o_ne_i (n := 97) (by decide) c64; have ec65 := o_ne_i (n := 98) (by decide) c65; have ec67 := o_ne_i (n := 99) (by decide) c67; have ec68 := o_ne_i (n := 100) (by decide) c68; have ec69 := o_ne_i (n := 101) (by decide) c69; have ec70 := o_ne_i (n := 102) (by decide) c70; have ec71 := o_ne_i (n := 103) (by decide) c71; have ec72 := o_ne_i (n := 104) (by decide) c72; have ec73 := o_ne_i (n := 105) (by decide) c73; have ec74 := o_ne_i (n := 106) (by decide) c74; have ec75 := o_ne_i (n := 107) (by decide) c75; have ec76 := o_ne_i (n := 108) (by decide) c76; have ec77 := o_ne_i (n := 109) (by decide) c77; have ec78 := o_ne_i (n := 110) (by decide) c78; have ec79 := o_ne_i (n := 111) (by decide) c79; have ec80 := o_ne_i (n := 112) (by decide) c80; have ec81 := o_ne_i (n := 113) (by decide) c81; have ec82 := o_ne_i (n := 114) (by decide) c82; have ec83 := o_ne_i (n := 115) (by decide) c83; have ec84 := o_ne_i (n := 116) (by decide) c84; have ec85 := o_ne_i (n := 117) (by decide) c85; have ec86 := o_ne_i (n := 118) (by decide) c86; have ec87 := o_ne_i (n := 119) (by decide) c87; have ec88 := o_ne_i (n := 120) (by decide) c88; have ec89 := o_ne_i (n := 121) (by decide) c89; have ec90 := o_ne_i (n := 122) (by decide) c90; have ec91 := o_ne_i (n := 123) (by decide) c91; have ec92 := o_ne_i (n := 124) (by decide) c92; have ec93 := o_ne_i (n := 125) (by decide) c93; omega) (by decide) ?_
  refine lv_aload_n hx hb d_MM_escape_475 rfl (lv_at hl 1 rfl) ?_
  refine lv_iconst (v := (1:Int32)) hx hb d_MM_escape_476 (by decide) ?_
  refine o_put (v := .int (1:Int32)) (ty := .boolean) (w1 := (m_cw ad ca ky ty 33 Ni (NP_mk (NP_nodeKind Np) (NP_nodeA Np) (NP_nodeB Np) (NP_nodeC Np) (NP_nodeNext Np) (NP_low Np) (NP_high Np) (NP_setFrom Np) (NP_setTo Np) (NP_setNot Np) (NP_nodes Np) (NP_sets Np) (NP_ranges Np) ((NP_pat Np) + (1:Int32)) (NP_patEnd Np) (1:Int32)) No Nx Nf Na Nh Nq Nj tc M1)) C in_MM t_MM t_MM_ok n_MM hP (hDD _ _ _ _ _ _ _ _ _ _ _ _) hS 0 mw_0 rfl 32 (by decide) k_8_22 rfl rfl (by decide +kernel) rfl rfl (Nat.le_of_ble_eq_true rfl) rfl d_MM_escape_477 (fun H locs hP hS => ?_)
  refine lv_iconst (v := (0:Int32)) hx hb d_MM_escape_480 (by decide) ?_
  cases h
  exact o_ri (v := (0:Int32)) C hP hS d_MM_escape_481
