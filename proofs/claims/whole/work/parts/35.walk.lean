set_option maxHeartbeats 4000000 in
set_option maxRecDepth 100000 in
theorem w_Tx_member_b10_11 {E : (Nat → Prop) → State → Heap → Prop} {p : Program} {l : Launch} {e : Env} {s : State} {m : MethodId} {args : Array Value} {below : List Frame} {meth : Method} {c : Code} {D : va_G} {ad kd sd vd xd : Nat → Nat} {ca : Nat → ClassId} {A : Nat → Prop} {Q : State → Prop} (hE : o_EK E kd sd vd xd) (C : o_Cx E p s m args meth c D o_cls (o_tys ca) "SchemaJudge$Text" b_Tx_member (some .int) 6 cc_Tx_member A) (hDD : ∀ (rt : Nat) (Sj : SSJ) (T0 : STx) (T1 : STx) (Rd : SRd) (Pg : SPg) (Pt : SPt) (Mk : SMk) (Lk : SLk) (Ck : SCk) (Jd : SJd) (Ld : SLd) (Pr : SPr), va_D A (o_cw ad ca rt Sj T0 T1 Rd Pg Pt Mk Lk Ck Jd Ld Pr)) (n : Nat) (u10_x1 : Int32) (u10_x3 : Int32) (u10_a0 : STx) (u10_Sj : SSJ) (u10_T0 : STx) (u10_Rd : SRd) (u10_Pg : SPg) (u10_Pt : SPt) (u10_Mk : SMk) (u10_Lk : SLk) (u10_Ck : SCk) (u10_Jd : SJd) (u10_Ld : SLd) (u10_Pr : SPr) (u10_rt : Nat) (z : Int32 × Int32) (q : Nat × Int32 × Int32) (h : m_Tx_member_b10 n u10_x1 u10_x3 u10_a0 u10_a0 z = some q) (h0 : q.1 = 0 → o_At p l e rm_Tx_member s m args below meth c Q o_cls D A 6 10 [] (o_cw ad ca u10_rt u10_Sj u10_T0 u10_a0 u10_Rd u10_Pg u10_Pt u10_Mk u10_Lk u10_Ck u10_Jd u10_Ld u10_Pr) [(0, .ref (ad 12)), (1, .int u10_x1), (2, .ref (ad 12)), (3, .int u10_x3), (4, .int q.2.1), (5, .int q.2.2)]) (h1 : q.1 ≠ 0 → (if q.1 = 1 then o_At p l e rm_Tx_member s m args below meth c Q o_cls D A 6 33 [] (o_cw ad ca u10_rt u10_Sj u10_T0 u10_a0 u10_Rd u10_Pg u10_Pt u10_Mk u10_Lk u10_Ck u10_Jd u10_Ld u10_Pr) [(4, .int q.2.1)] else o_At p l e rm_Tx_member s m args below meth c Q o_cls D A 6 50 [] (o_cw ad ca u10_rt u10_Sj u10_T0 u10_a0 u10_Rd u10_Pg u10_Pt u10_Mk u10_Lk u10_Ck u10_Jd u10_Ld u10_Pr) [])) : o_At p l e rm_Tx_member s m args below meth c Q o_cls D A 6 10 [] (o_cw ad ca u10_rt u10_Sj u10_T0 u10_a0 u10_Rd u10_Pg u10_Pt u10_Mk u10_Lk u10_Ck u10_Jd u10_Ld u10_Pr) [(0, .ref (ad 12)), (1, .int u10_x1), (2, .ref (ad 12)), (3, .int u10_x3), (4, .int z.1), (5, .int z.2)] := by
  unfold m_Tx_member_b10 at h
  intro H locs ls hP hS hl
  have C0 := C
  obtain ⟨hx, hb, -, -, -, hown, hts, hK, -, -⟩ := C0
  refine lv_iload hx hb d_Tx_member_10 (lv_at hl 5 rfl) ?_
  refine lv_aload_n hx hb d_Tx_member_12 rfl (lv_at hl 0 rfl) ?_
  refine lv_iload_n hx hb d_Tx_member_13 rfl (lv_at hl 1 rfl) ?_
  obtain ⟨q2, hq2, h⟩ := o_bd_some h
  refine o_V (st1 := [.int q2, .int z.2]) (w1 := (o_cw ad ca u10_rt u10_Sj u10_T0 u10_a0 u10_Rd u10_Pg u10_Pt u10_Mk u10_Lk u10_Ck u10_Jd u10_Ld u10_Pr)) hE.1 C (c_Tx_size_1 hE l u10_x1 u10_a0 u10_Sj u10_T0 u10_Rd u10_Pg u10_Pt u10_Mk u10_Lk u10_Ck u10_Jd u10_Ld u10_Pr u10_rt hq2) hP (hDD _ _ _ _ _ _ _ _ _ _ _ _ _) hS hl.1 rfl cw_12 k_3_214 k_3_215 k_3_216 k_1_2 k_3_217 hv_Tx_size rfl rfl ⟨(Nat.le_of_ble_eq_true rfl), (Nat.le_of_ble_eq_true rfl)⟩ rfl (Nat.le_of_ble_eq_true rfl) ⟨Nat.zero_le _, Nat.zero_le _⟩ rfl d_Tx_member_14 (fun H locs hP hS => ?_)
  refine lv_icmp_ge (tgt := 50) hx hb d_Tx_member_17 (by decide) (fun c1 => ?_) (fun c1 => ?_)
  · replace h := o_tt c1 h
    cases h
    exact h1 (Nat.succ_ne_zero 1) _ _ _ hP hS (lv_sub hl [] rfl)
  · replace h := o_ff c1 h
    refine lv_aload_n hx hb d_Tx_member_20 rfl (lv_at hl 0 rfl) ?_
    refine lv_iload hx hb d_Tx_member_21 (lv_at hl 4 rfl) ?_
    refine lv_iconst (v := (1:Int32)) hx hb d_Tx_member_23 (by decide) ?_
    refine lv_isub hx hb d_Tx_member_24 ?_
    refine lv_aload_n hx hb d_Tx_member_25 rfl (lv_at hl 2 rfl) ?_
    refine lv_iload_n hx hb d_Tx_member_26 rfl (lv_at hl 3 rfl) ?_
    obtain ⟨q3, hq3, h⟩ := o_bd_some h
    refine o_S (st1 := [.int q3]) (w1 := (o_cw ad ca u10_rt u10_Sj u10_T0 u10_a0 u10_Rd u10_Pg u10_Pt u10_Mk u10_Lk u10_Ck u10_Jd u10_Ld u10_Pr)) hE.1 C (c_Tx_sameString_11 hE l n (z.1 - (1:Int32)) u10_x3 u10_a0 u10_Sj u10_T0 u10_Rd u10_Pg u10_Pt u10_Mk u10_Lk u10_Ck u10_Jd u10_Ld u10_Pr u10_rt hq3) hP (hDD _ _ _ _ _ _ _ _ _ _ _ _ _) hS hl.1 k_3_218 k_3_219 k_1_2 k_3_220 hs_Tx_sameString rfl rfl ⟨(Nat.le_of_ble_eq_true rfl), (Nat.le_of_ble_eq_true rfl)⟩ rfl (Nat.le_of_ble_eq_true rfl) ⟨Nat.zero_le _, Nat.zero_le _⟩ rfl d_Tx_member_27 (fun H locs hP hS => ?_)
    refine lv_if_eq (tgt := 36) hx hb d_Tx_member_30 (by decide) (fun c2 => ?_) (fun c2 => ?_)
    · replace h := o_tt c2 h
      refine lv_aload_n hx hb d_Tx_member_36 rfl (lv_at hl 0 rfl) ?_
      refine lv_iload hx hb d_Tx_member_37 (lv_at hl 4 rfl) ?_
      obtain ⟨q4, hq4, h⟩ := o_bd_some h
      refine o_V (st1 := [.int q4]) (w1 := (o_cw ad ca u10_rt u10_Sj u10_T0 u10_a0 u10_Rd u10_Pg u10_Pt u10_Mk u10_Lk u10_Ck u10_Jd u10_Ld u10_Pr)) hE.1 C (c_Tx_nextChild_1 hE l z.1 u10_a0 u10_Sj u10_T0 u10_Rd u10_Pg u10_Pt u10_Mk u10_Lk u10_Ck u10_Jd u10_Ld u10_Pr u10_rt hq4) hP (hDD _ _ _ _ _ _ _ _ _ _ _ _ _) hS hl.1 rfl cw_12 k_3_221 k_3_222 k_3_223 k_1_2 k_3_224 hv_Tx_nextChild rfl rfl ⟨(Nat.le_of_ble_eq_true rfl), (Nat.le_of_ble_eq_true rfl)⟩ rfl (Nat.le_of_ble_eq_true rfl) ⟨Nat.zero_le _, Nat.zero_le _⟩ rfl d_Tx_member_39 (fun H locs hP hS => ?_)
      refine lv_istore (lv' := [(4, .int q4), (0, .ref (ad 12)), (1, .int u10_x1), (2, .ref (ad 12)), (3, .int u10_x3), (5, .int z.2)]) hx hb d_Tx_member_42 hl (by decide) rfl (fun ls hl => ?_)
      obtain ⟨x5_44, ex5_44⟩ : ∃ y : Int32, y = z.2 + (1:Int32) := ⟨_, rfl⟩
      replace h := o_nm_at ex5_44 h
      refine lv_iinc (v := x5_44) (lv' := [(5, .int x5_44), (4, .int q4), (0, .ref (ad 12)), (1, .int u10_x1), (2, .ref (ad 12)), (3, .int u10_x3)]) hx hb d_Tx_member_44 hl (k := 5) rfl (by rw [ex5_44]; rfl) (by decide) rfl (fun ls hl => ?_)
      refine lv_goto (tgt := 10) hx hb d_Tx_member_47 (by decide) ?_
      cases h
      exact h0 rfl _ _ _ hP hS (lv_sub hl [2, 3, 4, 5, 1, 0] rfl)
    · replace h := o_ff c2 h
      cases h
      exact h1 (Nat.succ_ne_zero 0) _ _ _ hP hS (lv_sub hl [4] rfl)
set_option maxHeartbeats 4000000 in
set_option maxRecDepth 100000 in
theorem c_Tx_member_11 {E : (Nat → Prop) → State → Heap → Prop} {D : va_G} {ad kd sd vd xd : Nat → Nat} {ca : Nat → ClassId} (hE : o_EK E kd sd vd xd) (l : Launch) (n : Nat) (x1 : Int32) (x3 : Int32) (a0 : STx) (Sj : SSJ) (T0 : STx) (Rd : SRd) (Pg : SPg) (Pt : SPt) (Mk : SMk) (Lk : SLk) (Ck : SCk) (Jd : SJd) (Ld : SLd) (Pr : SPr) (rt : Nat) {r : Int32} (h : m_Tx_member n x1 x3 a0 a0 = some r) : o_Cn E l D o_cls (o_tys ca) y_Tx_member cc_Tx_member rm_Tx_member [.ref (ad 12), .int x1, .ref (ad 12), .int x3] (o_cw ad ca rt Sj T0 a0 Rd Pg Pt Mk Lk Ck Jd Ld Pr) (o_cw ad ca rt Sj T0 a0 Rd Pg Pt Mk Lk Ck Jd Ld Pr) (some (.int r)) := by
  refine o_Cn_of (by decide) (Nat.le_of_ble_eq_true rfl) ?_
  intro p e s m below meth c A ls C hD hP hS hl
  have hDD : ∀ (rt : Nat) (Sj : SSJ) (T0 : STx) (T1 : STx) (Rd : SRd) (Pg : SPg) (Pt : SPt) (Mk : SMk) (Lk : SLk) (Ck : SCk) (Jd : SJd) (Ld : SLd) (Pr : SPr), va_D A (o_cw ad ca rt Sj T0 T1 Rd Pg Pt Mk Lk Ck Jd Ld Pr) := fun _ _ _ _ _ _ _ _ _ _ _ _ _ => o_D_map hD rfl
  have hl : lv_has ls 6 [(0, .ref (ad 12)), (1, .int x1), (2, .ref (ad 12)), (3, .int x3)] := hl
  unfold m_Tx_member at h
  have C0 := C
  obtain ⟨hx, hb, -, -, -, hown, hts, hK, -, -⟩ := C0
  refine lv_aload_n hx hb d_Tx_member_0 rfl (lv_at hl 0 rfl) ?_
  refine lv_iload_n hx hb d_Tx_member_1 rfl (lv_at hl 1 rfl) ?_
  obtain ⟨q1, hq1, h⟩ := o_bd_some h
  refine o_V (st1 := [.int q1]) (w1 := (o_cw ad ca rt Sj T0 a0 Rd Pg Pt Mk Lk Ck Jd Ld Pr)) hE.1 C (c_Tx_firstChild_1 hE l x1 a0 Sj T0 Rd Pg Pt Mk Lk Ck Jd Ld Pr rt hq1) hP (hDD _ _ _ _ _ _ _ _ _ _ _ _ _) hS hl.1 rfl cw_12 k_3_210 k_3_211 k_3_212 k_1_2 k_3_213 hv_Tx_firstChild rfl rfl ⟨(Nat.le_of_ble_eq_true rfl), (Nat.le_of_ble_eq_true rfl)⟩ rfl (Nat.le_of_ble_eq_true rfl) ⟨Nat.zero_le _, Nat.zero_le _⟩ rfl d_Tx_member_2 (fun H locs hP hS => ?_)
  refine lv_istore (lv' := [(4, .int q1), (0, .ref (ad 12)), (1, .int x1), (2, .ref (ad 12)), (3, .int x3)]) hx hb d_Tx_member_5 hl (by decide) rfl (fun ls hl => ?_)
  refine lv_iconst (v := (0:Int32)) hx hb d_Tx_member_7 (by decide) ?_
  refine lv_istore (lv' := [(5, .int (0:Int32)), (4, .int q1), (0, .ref (ad 12)), (1, .int x1), (2, .ref (ad 12)), (3, .int x3)]) hx hb d_Tx_member_8 hl (by decide) rfl (fun ls hl => ?_)
  obtain ⟨q5, hq5, h⟩ := o_bd_some h
  refine o_sim2 (AH := fun zz => o_At p l e rm_Tx_member s m _ below meth c _ o_cls D A 6 10 [] (o_cw ad ca rt Sj T0 a0 Rd Pg Pt Mk Lk Ck Jd Ld Pr) [(0, .ref (ad 12)), (1, .int x1), (2, .ref (ad 12)), (3, .int x3), (4, .int zz.1), (5, .int zz.2)]) (AX := fun qq => if qq.1 = 1 then o_At p l e rm_Tx_member s m _ below meth c _ o_cls D A 6 33 [] (o_cw ad ca rt Sj T0 a0 Rd Pg Pt Mk Lk Ck Jd Ld Pr) [(4, .int qq.2.1)] else o_At p l e rm_Tx_member s m _ below meth c _ o_cls D A 6 50 [] (o_cw ad ca rt Sj T0 a0 Rd Pg Pt Mk Lk Ck Jd Ld Pr) []) (fun zz qq h h0 h1 => w_Tx_member_b10_11 hE C hDD n x1 x3 a0 Sj T0 Rd Pg Pt Mk Lk Ck Jd Ld Pr rt zz qq h h0 h1) n _ q5 hq5 ?_ _ _ _ hP hS (lv_sub hl [2, 3, 4, 5, 1, 0] rfl)
  by_cases c3 : q5.1 = 1
  · replace h := o_tt c3 h
    refine o_ip c3 ?_
    intro H locs ls hP hS hl
    refine lv_iload hx hb d_Tx_member_33 (lv_at hl 0 rfl) ?_
    cases h
    exact o_ri C hP hS d_Tx_member_35
  replace h := o_ff c3 h
  refine o_in_ c3 ?_
  intro H locs ls hP hS hl
  refine lv_iconst (v := (-1:Int32)) hx hb d_Tx_member_50 (by decide) ?_
  cases h
  exact o_ri (v := (-1:Int32)) C hP hS d_Tx_member_51
set_option maxHeartbeats 4000000 in
set_option maxRecDepth 100000 in
theorem w_Tx_compare_j22_11 {E : (Nat → Prop) → State → Heap → Prop} {p : Program} {l : Launch} {e : Env} {s : State} {m : MethodId} {args : Array Value} {below : List Frame} {meth : Method} {c : Code} {D : va_G} {ad kd sd vd xd : Nat → Nat} {ca : Nat → ClassId} {A : Nat → Prop} (hE : o_EK E kd sd vd xd) (C : o_Cx E p s m args meth c D o_cls (o_tys ca) "SchemaJudge$Text" b_Tx_compare (some .int) 10 cc_Tx_compare A) (hDD : ∀ (rt : Nat) (Sj : SSJ) (T0 : STx) (T1 : STx) (Rd : SRd) (Pg : SPg) (Pt : SPt) (Mk : SMk) (Lk : SLk) (Ck : SCk) (Jd : SJd) (Ld : SLd) (Pr : SPr), va_D A (o_cw ad ca rt Sj T0 T1 Rd Pg Pt Mk Lk Ck Jd Ld Pr)) (n : Nat) (x3 : Int32) (x4 : Int32) (a0 : STx) (Sj : SSJ) (T0 : STx) (Rd : SRd) (Pg : SPg) (Pt : SPt) (Mk : SMk) (Lk : SLk) (Ck : SCk) (Jd : SJd) (Ld : SLd) (Pr : SPr) (rt : Nat) {r : Int32} (h : m_Tx_compare_j22 n x3 x4 a0 a0 = some r) : o_At p l e rm_Tx_compare s m args below meth c (MQ below (o_Qx D o_cls (some (.int r)) (o_cw ad ca rt Sj T0 a0 Rd Pg Pt Mk Lk Ck Jd Ld Pr) A) args s 0 0 A) o_cls D A 10 22 [] (o_cw ad ca rt Sj T0 a0 Rd Pg Pt Mk Lk Ck Jd Ld Pr) [(2, .ref (ad 12)), (3, .int x3), (4, .int x4)] := by
  unfold m_Tx_compare_j22 at h
  intro H locs ls hP hS hl
  have C0 := C
  obtain ⟨hx, hb, -, -, -, hown, hts, hK, -, -⟩ := C0
  refine lv_iload hx hb d_Tx_compare_22 (lv_at hl 2 rfl) ?_
  refine lv_aload_n hx hb d_Tx_compare_24 rfl (lv_at hl 0 rfl) ?_
  refine lv_iload_n hx hb d_Tx_compare_25 rfl (lv_at hl 1 rfl) ?_
  obtain ⟨q3, hq3, h⟩ := o_bd_some h
  refine o_V (st1 := [.int q3, .int x4]) (w1 := (o_cw ad ca rt Sj T0 a0 Rd Pg Pt Mk Lk Ck Jd Ld Pr)) hE.1 C (c_Tx_sign_1 hE l x3 a0 Sj T0 Rd Pg Pt Mk Lk Ck Jd Ld Pr rt hq3) hP (hDD _ _ _ _ _ _ _ _ _ _ _ _ _) hS hl.1 rfl cw_12 k_5_65 k_5_57 k_5_58 k_1_2 k_5_59 hv_Tx_sign rfl rfl ⟨(Nat.le_of_ble_eq_true rfl), (Nat.le_of_ble_eq_true rfl)⟩ rfl (Nat.le_of_ble_eq_true rfl) ⟨Nat.zero_le _, Nat.zero_le _⟩ rfl d_Tx_compare_26 (fun H locs hP hS => ?_)
  refine lv_isub hx hb d_Tx_compare_29 ?_
  cases h
  exact o_ri (v := (x4 - q3)) C hP hS d_Tx_compare_30
set_option maxHeartbeats 4000000 in
set_option maxRecDepth 100000 in
theorem w_Tx_compare_b83_11 {E : (Nat → Prop) → State → Heap → Prop} {p : Program} {l : Launch} {e : Env} {s : State} {m : MethodId} {args : Array Value} {below : List Frame} {meth : Method} {c : Code} {D : va_G} {ad kd sd vd xd : Nat → Nat} {ca : Nat → ClassId} {A : Nat → Prop} {Q : State → Prop} (hE : o_EK E kd sd vd xd) (C : o_Cx E p s m args meth c D o_cls (o_tys ca) "SchemaJudge$Text" b_Tx_compare (some .int) 10 cc_Tx_compare A) (hDD : ∀ (rt : Nat) (Sj : SSJ) (T0 : STx) (T1 : STx) (Rd : SRd) (Pg : SPg) (Pt : SPt) (Mk : SMk) (Lk : SLk) (Ck : SCk) (Jd : SJd) (Ld : SLd) (Pr : SPr), va_D A (o_cw ad ca rt Sj T0 T1 Rd Pg Pt Mk Lk Ck Jd Ld Pr)) (n : Nat) (u83_x1 : Int32) (u83_x3 : Int32) (u83_x4 : Int32) (u83_a0 : STx) (u83_Sj : SSJ) (u83_T0 : STx) (u83_Rd : SRd) (u83_Pg : SPg) (u83_Pt : SPt) (u83_Mk : SMk) (u83_Lk : SLk) (u83_Ck : SCk) (u83_Jd : SJd) (u83_Ld : SLd) (u83_Pr : SPr) (u83_rt : Nat) (z : Int32 × Int32 × Int32) (q : Nat × Int32 × Int32 × Int32) (h : m_Tx_compare_b83 n u83_x1 u83_x3 u83_x4 u83_a0 u83_a0 z = some q) (h0 : q.1 = 0 → o_At p l e rm_Tx_compare s m args below meth c Q o_cls D A 10 83 [] (o_cw ad ca u83_rt u83_Sj u83_T0 u83_a0 u83_Rd u83_Pg u83_Pt u83_Mk u83_Lk u83_Ck u83_Jd u83_Ld u83_Pr) [(0, .ref (ad 12)), (1, .int u83_x1), (2, .ref (ad 12)), (3, .int u83_x3), (4, .int u83_x4), (7, .int q.2.1)]) (h1 : q.1 ≠ 0 → (if q.1 = 1 then o_At p l e rm_Tx_compare s m args below meth c Q o_cls D A 10 115 [] (o_cw ad ca u83_rt u83_Sj u83_T0 u83_a0 u83_Rd u83_Pg u83_Pt u83_Mk u83_Lk u83_Ck u83_Jd u83_Ld u83_Pr) [(4, .int u83_x4), (8, .int q.2.2.1), (9, .int q.2.2.2)] else o_At p l e rm_Tx_compare s m args below meth c Q o_cls D A 10 137 [] (o_cw ad ca u83_rt u83_Sj u83_T0 u83_a0 u83_Rd u83_Pg u83_Pt u83_Mk u83_Lk u83_Ck u83_Jd u83_Ld u83_Pr) [])) : o_At p l e rm_Tx_compare s m args below meth c Q o_cls D A 10 83 [] (o_cw ad ca u83_rt u83_Sj u83_T0 u83_a0 u83_Rd u83_Pg u83_Pt u83_Mk u83_Lk u83_Ck u83_Jd u83_Ld u83_Pr) [(0, .ref (ad 12)), (1, .int u83_x1), (2, .ref (ad 12)), (3, .int u83_x3), (4, .int u83_x4), (7, .int z.1)] := by
  unfold m_Tx_compare_b83 at h
  intro H locs ls hP hS hl
  have C0 := C
  obtain ⟨hx, hb, -, -, -, hown, hts, hK, -, -⟩ := C0
  refine lv_iload hx hb d_Tx_compare_83 (lv_at hl 5 rfl) ?_
  refine lv_bipush (v := (60:Int32)) hx hb d_Tx_compare_85 (by decide) ?_
  refine lv_icmp_ge (tgt := 137) hx hb d_Tx_compare_87 (by decide) (fun c4 => ?_) (fun c4 => ?_)
  · replace h := o_tt c4 h
    cases h
    exact h1 (Nat.succ_ne_zero 1) _ _ _ hP hS (lv_sub hl [] rfl)
  · replace h := o_ff c4 h
    refine lv_aload_n hx hb d_Tx_compare_90 rfl (lv_at hl 0 rfl) ?_
    refine lv_iload_n hx hb d_Tx_compare_91 rfl (lv_at hl 1 rfl) ?_
    refine lv_iload hx hb d_Tx_compare_92 (lv_at hl 5 rfl) ?_
    obtain ⟨q8, hq8, h⟩ := o_bd_some h
    refine o_V (st1 := [.int q8]) (w1 := (o_cw ad ca u83_rt u83_Sj u83_T0 u83_a0 u83_Rd u83_Pg u83_Pt u83_Mk u83_Lk u83_Ck u83_Jd u83_Ld u83_Pr)) hE.1 C (c_Tx_cell_1 hE l u83_x1 z.1 u83_a0 u83_Sj u83_T0 u83_Rd u83_Pg u83_Pt u83_Mk u83_Lk u83_Ck u83_Jd u83_Ld u83_Pr u83_rt hq8) hP (hDD _ _ _ _ _ _ _ _ _ _ _ _ _) hS hl.1 rfl cw_12 k_5_70 k_4_117 k_4_118 k_1_2 k_4_119 hv_Tx_cell rfl rfl ⟨(Nat.le_of_ble_eq_true rfl), (Nat.le_of_ble_eq_true rfl)⟩ rfl (Nat.le_of_ble_eq_true rfl) ⟨Nat.zero_le _, Nat.zero_le _⟩ rfl d_Tx_compare_94 (fun H locs hP hS => ?_)
    refine lv_istore (lv' := [(8, .int q8), (0, .ref (ad 12)), (1, .int u83_x1), (2, .ref (ad 12)), (3, .int u83_x3), (4, .int u83_x4), (7, .int z.1)]) hx hb d_Tx_compare_97 hl (by decide) rfl (fun ls hl => ?_)
    refine lv_aload_n hx hb d_Tx_compare_99 rfl (lv_at hl 3 rfl) ?_
    refine lv_iload_n hx hb d_Tx_compare_100 rfl (lv_at hl 4 rfl) ?_
    refine lv_iload hx hb d_Tx_compare_101 (lv_at hl 6 rfl) ?_
    obtain ⟨q9, hq9, h⟩ := o_bd_some h
    refine o_V (st1 := [.int q9]) (w1 := (o_cw ad ca u83_rt u83_Sj u83_T0 u83_a0 u83_Rd u83_Pg u83_Pt u83_Mk u83_Lk u83_Ck u83_Jd u83_Ld u83_Pr)) hE.1 C (c_Tx_cell_1 hE l u83_x3 z.1 u83_a0 u83_Sj u83_T0 u83_Rd u83_Pg u83_Pt u83_Mk u83_Lk u83_Ck u83_Jd u83_Ld u83_Pr u83_rt hq9) hP (hDD _ _ _ _ _ _ _ _ _ _ _ _ _) hS hl.1 rfl cw_12 k_5_70 k_4_117 k_4_118 k_1_2 k_4_119 hv_Tx_cell rfl rfl ⟨(Nat.le_of_ble_eq_true rfl), (Nat.le_of_ble_eq_true rfl)⟩ rfl (Nat.le_of_ble_eq_true rfl) ⟨Nat.zero_le _, Nat.zero_le _⟩ rfl d_Tx_compare_103 (fun H locs hP hS => ?_)
    refine lv_istore (lv' := [(9, .int q9), (8, .int q8), (0, .ref (ad 12)), (1, .int u83_x1), (2, .ref (ad 12)), (3, .int u83_x3), (4, .int u83_x4), (7, .int z.1)]) hx hb d_Tx_compare_106 hl (by decide) rfl (fun ls hl => ?_)
    refine lv_iload hx hb d_Tx_compare_108 (lv_at hl 1 rfl) ?_
    refine lv_iload hx hb d_Tx_compare_110 (lv_at hl 0 rfl) ?_
    refine lv_icmp_eq (tgt := 131) hx hb d_Tx_compare_112 (by decide) (fun c5 => ?_) (fun c5 => ?_)
    · replace h := o_tt c5 h
      obtain ⟨x7_131, ex7_131⟩ : ∃ y : Int32, y = z.1 + (1:Int32) := ⟨_, rfl⟩
      replace h := o_nm_at ex7_131 h
      refine lv_iinc (v := x7_131) (lv' := [(7, .int x7_131), (9, .int q9), (8, .int q8), (0, .ref (ad 12)), (1, .int u83_x1), (2, .ref (ad 12)), (3, .int u83_x3), (4, .int u83_x4)]) hx hb d_Tx_compare_131 hl (k := 7) rfl (by rw [ex7_131]; rfl) (by decide) rfl (fun ls hl => ?_)
      refine lv_goto (tgt := 83) hx hb d_Tx_compare_134 (by decide) ?_
      cases h
      exact h0 rfl _ _ _ hP hS (lv_sub hl [3, 4, 5, 6, 7, 0] rfl)
    · replace h := o_ff c5 h
      cases h
      exact h1 (Nat.succ_ne_zero 0) _ _ _ hP hS (lv_sub hl [6, 1, 0] rfl)
set_option maxHeartbeats 4000000 in
set_option maxRecDepth 100000 in
theorem c_Tx_compare_11 {E : (Nat → Prop) → State → Heap → Prop} {D : va_G} {ad kd sd vd xd : Nat → Nat} {ca : Nat → ClassId} (hE : o_EK E kd sd vd xd) (l : Launch) (n : Nat) (x1 : Int32) (x3 : Int32) (a0 : STx) (Sj : SSJ) (T0 : STx) (Rd : SRd) (Pg : SPg) (Pt : SPt) (Mk : SMk) (Lk : SLk) (Ck : SCk) (Jd : SJd) (Ld : SLd) (Pr : SPr) (rt : Nat) {r : Int32} (h : m_Tx_compare n x1 x3 a0 a0 = some r) : o_Cn E l D o_cls (o_tys ca) y_Tx_compare cc_Tx_compare rm_Tx_compare [.ref (ad 12), .int x1, .ref (ad 12), .int x3] (o_cw ad ca rt Sj T0 a0 Rd Pg Pt Mk Lk Ck Jd Ld Pr) (o_cw ad ca rt Sj T0 a0 Rd Pg Pt Mk Lk Ck Jd Ld Pr) (some (.int r)) := by
  refine o_Cn_of (by decide) (Nat.le_of_ble_eq_true rfl) ?_
  intro p e s m below meth c A ls C hD hP hS hl
  have hDD : ∀ (rt : Nat) (Sj : SSJ) (T0 : STx) (T1 : STx) (Rd : SRd) (Pg : SPg) (Pt : SPt) (Mk : SMk) (Lk : SLk) (Ck : SCk) (Jd : SJd) (Ld : SLd) (Pr : SPr), va_D A (o_cw ad ca rt Sj T0 T1 Rd Pg Pt Mk Lk Ck Jd Ld Pr) := fun _ _ _ _ _ _ _ _ _ _ _ _ _ => o_D_map hD rfl
  have hl : lv_has ls 10 [(0, .ref (ad 12)), (1, .int x1), (2, .ref (ad 12)), (3, .int x3)] := hl
  unfold m_Tx_compare at h
  have C0 := C
  obtain ⟨hx, hb, -, -, -, hown, hts, hK, -, -⟩ := C0
  refine lv_aload_n hx hb d_Tx_compare_0 rfl (lv_at hl 0 rfl) ?_
  refine lv_iload_n hx hb d_Tx_compare_1 rfl (lv_at hl 1 rfl) ?_
  obtain ⟨q1, hq1, h⟩ := o_bd_some h
  refine o_V (st1 := [.int q1]) (w1 := (o_cw ad ca rt Sj T0 a0 Rd Pg Pt Mk Lk Ck Jd Ld Pr)) hE.1 C (c_Tx_sign_1 hE l x1 a0 Sj T0 Rd Pg Pt Mk Lk Ck Jd Ld Pr rt hq1) hP (hDD _ _ _ _ _ _ _ _ _ _ _ _ _) hS hl.1 rfl cw_12 k_5_65 k_5_57 k_5_58 k_1_2 k_5_59 hv_Tx_sign rfl rfl ⟨(Nat.le_of_ble_eq_true rfl), (Nat.le_of_ble_eq_true rfl)⟩ rfl (Nat.le_of_ble_eq_true rfl) ⟨Nat.zero_le _, Nat.zero_le _⟩ rfl d_Tx_compare_2 (fun H locs hP hS => ?_)
  refine lv_istore (lv' := [(4, .int q1), (0, .ref (ad 12)), (1, .int x1), (2, .ref (ad 12)), (3, .int x3)]) hx hb d_Tx_compare_5 hl (by decide) rfl (fun ls hl => ?_)
  refine lv_iload hx hb d_Tx_compare_7 (lv_at hl 0 rfl) ?_
  refine lv_aload_n hx hb d_Tx_compare_9 rfl (lv_at hl 3 rfl) ?_
  refine lv_iload_n hx hb d_Tx_compare_10 rfl (lv_at hl 4 rfl) ?_
  obtain ⟨q2, hq2, h⟩ := o_bd_some h
  refine o_V (st1 := [.int q2, .int q1]) (w1 := (o_cw ad ca rt Sj T0 a0 Rd Pg Pt Mk Lk Ck Jd Ld Pr)) hE.1 C (c_Tx_sign_1 hE l x3 a0 Sj T0 Rd Pg Pt Mk Lk Ck Jd Ld Pr rt hq2) hP (hDD _ _ _ _ _ _ _ _ _ _ _ _ _) hS hl.1 rfl cw_12 k_5_65 k_5_57 k_5_58 k_1_2 k_5_59 hv_Tx_sign rfl rfl ⟨(Nat.le_of_ble_eq_true rfl), (Nat.le_of_ble_eq_true rfl)⟩ rfl (Nat.le_of_ble_eq_true rfl) ⟨Nat.zero_le _, Nat.zero_le _⟩ rfl d_Tx_compare_11 (fun H locs hP hS => ?_)
  refine lv_icmp_ne (tgt := 22) hx hb d_Tx_compare_14 (by decide) (fun c1 => ?_) (fun c1 => ?_)
  · replace h := o_ff c1 h
    exact w_Tx_compare_j22_11 hE C hDD n x3 q1 a0 Sj T0 Rd Pg Pt Mk Lk Ck Jd Ld Pr rt h _ _ _ hP hS (lv_sub hl [3, 4, 0] rfl)
  · replace h := o_tt c1 h
    refine lv_iload hx hb d_Tx_compare_17 (lv_at hl 0 rfl) ?_
    refine lv_if_ne (tgt := 31) hx hb d_Tx_compare_19 (by decide) (fun c2 => ?_) (fun c2 => ?_)
    · replace h := o_ff c2 h
      refine lv_aload_n hx hb d_Tx_compare_31 rfl (lv_at hl 1 rfl) ?_
      refine lv_iload_n hx hb d_Tx_compare_32 rfl (lv_at hl 2 rfl) ?_
      obtain ⟨q4, hq4, h⟩ := o_bd_some h
      refine o_V (st1 := [.int q4]) (w1 := (o_cw ad ca rt Sj T0 a0 Rd Pg Pt Mk Lk Ck Jd Ld Pr)) hE.1 C (c_Tx_size_1 hE l x1 a0 Sj T0 Rd Pg Pt Mk Lk Ck Jd Ld Pr rt hq4) hP (hDD _ _ _ _ _ _ _ _ _ _ _ _ _) hS hl.1 rfl cw_12 k_3_214 k_3_215 k_3_216 k_1_2 k_3_217 hv_Tx_size rfl rfl ⟨(Nat.le_of_ble_eq_true rfl), (Nat.le_of_ble_eq_true rfl)⟩ rfl (Nat.le_of_ble_eq_true rfl) ⟨Nat.zero_le _, Nat.zero_le _⟩ rfl d_Tx_compare_33 (fun H locs hP hS => ?_)
      refine lv_aload_n hx hb d_Tx_compare_36 rfl (lv_at hl 1 rfl) ?_
      refine lv_iload_n hx hb d_Tx_compare_37 rfl (lv_at hl 2 rfl) ?_
      obtain ⟨q5, hq5, h⟩ := o_bd_some h
      refine o_V (st1 := [.int q5, .int q4]) (w1 := (o_cw ad ca rt Sj T0 a0 Rd Pg Pt Mk Lk Ck Jd Ld Pr)) hE.1 C (c_Tx_exponent_1 hE l x1 a0 Sj T0 Rd Pg Pt Mk Lk Ck Jd Ld Pr rt hq5) hP (hDD _ _ _ _ _ _ _ _ _ _ _ _ _) hS hl.1 rfl cw_12 k_5_66 k_5_67 k_5_68 k_1_2 k_5_69 hv_Tx_exponent rfl rfl ⟨(Nat.le_of_ble_eq_true rfl), (Nat.le_of_ble_eq_true rfl)⟩ rfl (Nat.le_of_ble_eq_true rfl) ⟨Nat.zero_le _, Nat.zero_le _⟩ rfl d_Tx_compare_38 (fun H locs hP hS => ?_)
      refine lv_iadd hx hb d_Tx_compare_41 ?_
      refine lv_topi (fun x5_42 ex5_42 => ?_)
      replace h := o_nm_at ex5_42 h
      refine lv_istore (lv' := [(5, .int x5_42), (4, .int q1), (0, .ref (ad 12)), (1, .int x1), (2, .ref (ad 12)), (3, .int x3)]) hx hb d_Tx_compare_42 hl (by decide) rfl (fun ls hl => ?_)
      refine lv_aload_n hx hb d_Tx_compare_44 rfl (lv_at hl 4 rfl) ?_
      refine lv_iload_n hx hb d_Tx_compare_45 rfl (lv_at hl 5 rfl) ?_
      obtain ⟨q6, hq6, h⟩ := o_bd_some h
      refine o_V (st1 := [.int q6]) (w1 := (o_cw ad ca rt Sj T0 a0 Rd Pg Pt Mk Lk Ck Jd Ld Pr)) hE.1 C (c_Tx_size_1 hE l x3 a0 Sj T0 Rd Pg Pt Mk Lk Ck Jd Ld Pr rt hq6) hP (hDD _ _ _ _ _ _ _ _ _ _ _ _ _) hS hl.1 rfl cw_12 k_3_214 k_3_215 k_3_216 k_1_2 k_3_217 hv_Tx_size rfl rfl ⟨(Nat.le_of_ble_eq_true rfl), (Nat.le_of_ble_eq_true rfl)⟩ rfl (Nat.le_of_ble_eq_true rfl) ⟨Nat.zero_le _, Nat.zero_le _⟩ rfl d_Tx_compare_46 (fun H locs hP hS => ?_)
      refine lv_aload_n hx hb d_Tx_compare_49 rfl (lv_at hl 4 rfl) ?_
      refine lv_iload_n hx hb d_Tx_compare_50 rfl (lv_at hl 5 rfl) ?_
      obtain ⟨q7, hq7, h⟩ := o_bd_some h
      refine o_V (st1 := [.int q7, .int q6]) (w1 := (o_cw ad ca rt Sj T0 a0 Rd Pg Pt Mk Lk Ck Jd Ld Pr)) hE.1 C (c_Tx_exponent_1 hE l x3 a0 Sj T0 Rd Pg Pt Mk Lk Ck Jd Ld Pr rt hq7) hP (hDD _ _ _ _ _ _ _ _ _ _ _ _ _) hS hl.1 rfl cw_12 k_5_66 k_5_67 k_5_68 k_1_2 k_5_69 hv_Tx_exponent rfl rfl ⟨(Nat.le_of_ble_eq_true rfl), (Nat.le_of_ble_eq_true rfl)⟩ rfl (Nat.le_of_ble_eq_true rfl) ⟨Nat.zero_le _, Nat.zero_le _⟩ rfl d_Tx_compare_51 (fun H locs hP hS => ?_)
      refine lv_iadd hx hb d_Tx_compare_54 ?_
      refine lv_topi (fun x6_55 ex6_55 => ?_)
      replace h := o_nm_at ex6_55 h
      refine lv_istore (lv' := [(6, .int x6_55), (5, .int x5_42), (4, .int q1), (0, .ref (ad 12)), (1, .int x1), (2, .ref (ad 12)), (3, .int x3)]) hx hb d_Tx_compare_55 hl (by decide) rfl (fun ls hl => ?_)
      refine lv_iload hx hb d_Tx_compare_57 (lv_at hl 1 rfl) ?_
      refine lv_iload hx hb d_Tx_compare_59 (lv_at hl 0 rfl) ?_
      refine lv_icmp_eq (tgt := 80) hx hb d_Tx_compare_61 (by decide) (fun c3 => ?_) (fun c3 => ?_)
      · replace h := o_tt c3 h
        refine lv_iconst (v := (0:Int32)) hx hb d_Tx_compare_80 (by decide) ?_
        refine lv_istore (lv' := [(7, .int (0:Int32)), (6, .int x6_55), (5, .int x5_42), (4, .int q1), (0, .ref (ad 12)), (1, .int x1), (2, .ref (ad 12)), (3, .int x3)]) hx hb d_Tx_compare_81 hl (by decide) rfl (fun ls hl => ?_)
        obtain ⟨q10, hq10, h⟩ := o_bd_some h
        refine o_sim2 (AH := fun zz => o_At p l e rm_Tx_compare s m _ below meth c _ o_cls D A 10 83 [] (o_cw ad ca rt Sj T0 a0 Rd Pg Pt Mk Lk Ck Jd Ld Pr) [(0, .ref (ad 12)), (1, .int x1), (2, .ref (ad 12)), (3, .int x3), (4, .int q1), (7, .int zz.1)]) (AX := fun qq => if qq.1 = 1 then o_At p l e rm_Tx_compare s m _ below meth c _ o_cls D A 10 115 [] (o_cw ad ca rt Sj T0 a0 Rd Pg Pt Mk Lk Ck Jd Ld Pr) [(4, .int q1), (8, .int qq.2.2.1), (9, .int qq.2.2.2)] else o_At p l e rm_Tx_compare s m _ below meth c _ o_cls D A 10 137 [] (o_cw ad ca rt Sj T0 a0 Rd Pg Pt Mk Lk Ck Jd Ld Pr) []) (fun zz qq h h0 h1 => w_Tx_compare_b83_11 hE C hDD n x1 x3 q1 a0 Sj T0 Rd Pg Pt Mk Lk Ck Jd Ld Pr rt zz qq h h0 h1) n _ q10 hq10 ?_ _ _ _ hP hS (lv_sub hl [4, 5, 6, 7, 3, 0] rfl)
        by_cases c7 : q10.1 = 1
        · replace h := o_tt c7 h
          refine o_ip c7 ?_
          intro H locs ls hP hS hl
          refine lv_iload hx hb d_Tx_compare_115 (lv_at hl 1 rfl) ?_
          refine lv_iload hx hb d_Tx_compare_117 (lv_at hl 2 rfl) ?_
          refine lv_icmp_ge (tgt := 128) hx hb d_Tx_compare_119 (by decide) (fun c6 => ?_) (fun c6 => ?_)
          · replace h := o_tt c6 h
            refine lv_iload hx hb d_Tx_compare_128 (lv_at hl 0 rfl) ?_
            cases h
            exact o_ri C hP hS d_Tx_compare_130
          · replace h := o_ff c6 h
            refine lv_iload hx hb d_Tx_compare_122 (lv_at hl 0 rfl) ?_
            refine lv_ineg hx hb d_Tx_compare_124 ?_
            refine lv_goto (tgt := 130) hx hb d_Tx_compare_125 (by decide) ?_
            cases h
            exact o_ri (v := (-q1)) C hP hS d_Tx_compare_130
        replace h := o_ff c7 h
        refine o_in_ c7 ?_
        intro H locs ls hP hS hl
        refine lv_iconst (v := (0:Int32)) hx hb d_Tx_compare_137 (by decide) ?_
        cases h
        exact o_ri (v := (0:Int32)) C hP hS d_Tx_compare_138
      · replace h := o_ff c3 h
        refine lv_iload hx hb d_Tx_compare_64 (lv_at hl 1 rfl) ?_
        refine lv_iload hx hb d_Tx_compare_66 (lv_at hl 0 rfl) ?_
        refine lv_icmp_ge (tgt := 77) hx hb d_Tx_compare_68 (by decide) (fun c8 => ?_) (fun c8 => ?_)
        · replace h := o_tt c8 h
          refine lv_iload hx hb d_Tx_compare_77 (lv_at hl 2 rfl) ?_
          cases h
          exact o_ri C hP hS d_Tx_compare_79
        · replace h := o_ff c8 h
          refine lv_iload hx hb d_Tx_compare_71 (lv_at hl 2 rfl) ?_
          refine lv_ineg hx hb d_Tx_compare_73 ?_
          refine lv_goto (tgt := 79) hx hb d_Tx_compare_74 (by decide) ?_
          cases h
          exact o_ri (v := (-q1)) C hP hS d_Tx_compare_79
    · replace h := o_tt c2 h
      exact w_Tx_compare_j22_11 hE C hDD n x3 q1 a0 Sj T0 Rd Pg Pt Mk Lk Ck Jd Ld Pr rt h _ _ _ hP hS (lv_sub hl [3, 4, 0] rfl)
set_option maxHeartbeats 4000000 in
set_option maxRecDepth 100000 in
theorem w_Tx_same_j125_11 {E : (Nat → Prop) → State → Heap → Prop} {p : Program} {l : Launch} {e : Env} {s : State} {m : MethodId} {args : Array Value} {below : List Frame} {meth : Method} {c : Code} {D : va_G} {ad kd sd vd xd : Nat → Nat} {ca : Nat → ClassId} {A : Nat → Prop} {Q : State → Prop} (hE : o_EK E kd sd vd xd) (C : o_Cx E p s m args meth c D o_cls (o_tys ca) "SchemaJudge$Text" b_Tx_same (some .boolean) 10 cc_Tx_same A) (hDD : ∀ (rt : Nat) (Sj : SSJ) (T0 : STx) (T1 : STx) (Rd : SRd) (Pg : SPg) (Pt : SPt) (Mk : SMk) (Lk : SLk) (Ck : SCk) (Jd : SJd) (Ld : SLd) (Pr : SPr), va_D A (o_cw ad ca rt Sj T0 T1 Rd Pg Pt Mk Lk Ck Jd Ld Pr)) (d : Nat) (rec : Int32 → Int32 → Int32 → STx → STx → Option (Int32)) (hrec : ∀ (x1 : Int32) (x3 : Int32) (x4 : Int32) (a0 : STx) (Sj : SSJ) (T0 : STx) (Rd : SRd) (Pg : SPg) (Pt : SPt) (Mk : SMk) (Lk : SLk) (Ck : SCk) (Jd : SJd) (Ld : SLd) (Pr : SPr) (rt : Nat) (r : Int32), rec x1 x3 x4 a0 a0 = some r → o_Cn E l D o_cls (o_tys ca) y_Tx_same cc_Tx_same (rm_Tx_same d) [.ref (ad 12), .int x1, .ref (ad 12), .int x3, .int x4] (o_cw ad ca rt Sj T0 a0 Rd Pg Pt Mk Lk Ck Jd Ld Pr) (o_cw ad ca rt Sj T0 a0 Rd Pg Pt Mk Lk Ck Jd Ld Pr) (some (.int r))) (n : Nat) (u94_x1 : Int32) (u94_x3 : Int32) (u94_x4 : Int32) (u94_x5 : Int32) (u94_a0 : STx) (u94_Sj : SSJ) (u94_T0 : STx) (u94_Rd : SRd) (u94_Pg : SPg) (u94_Pt : SPt) (u94_Mk : SMk) (u94_Lk : SLk) (u94_Ck : SCk) (u94_Jd : SJd) (u94_Ld : SLd) (u94_Pr : SPr) (u94_rt : Nat) (x6 : Int32) (x7 : Int32) (x8 : Int32) (y0 : Int32) {q : Nat × Int32 × Int32 × Int32} (h : m_Tx_same_j125 n rec u94_x1 u94_x3 u94_x4 u94_x5 x6 x7 x8 y0 u94_a0 u94_a0 = some q) (h0 : q.1 = 0 → o_At p l e (rm_Tx_same (d + 1)) s m args below meth c Q o_cls D A 10 94 [] (o_cw ad ca u94_rt u94_Sj u94_T0 u94_a0 u94_Rd u94_Pg u94_Pt u94_Mk u94_Lk u94_Ck u94_Jd u94_Ld u94_Pr) [(0, .ref (ad 12)), (1, .int u94_x1), (2, .ref (ad 12)), (3, .int u94_x3), (4, .int u94_x4), (5, .int u94_x5), (6, .int q.2.1), (7, .int q.2.2.1), (8, .int q.2.2.2)]) (h1 : q.1 ≠ 0 → (if q.1 = 1 then o_At p l e (rm_Tx_same (d + 1)) s m args below meth c Q o_cls D A 10 149 [] (o_cw ad ca u94_rt u94_Sj u94_T0 u94_a0 u94_Rd u94_Pg u94_Pt u94_Mk u94_Lk u94_Ck u94_Jd u94_Ld u94_Pr) [] else o_At p l e (rm_Tx_same (d + 1)) s m args below meth c Q o_cls D A 10 173 [] (o_cw ad ca u94_rt u94_Sj u94_T0 u94_a0 u94_Rd u94_Pg u94_Pt u94_Mk u94_Lk u94_Ck u94_Jd u94_Ld u94_Pr) [])) : o_At p l e (rm_Tx_same (d + 1)) s m args below meth c Q o_cls D A 10 125 [.int y0] (o_cw ad ca u94_rt u94_Sj u94_T0 u94_a0 u94_Rd u94_Pg u94_Pt u94_Mk u94_Lk u94_Ck u94_Jd u94_Ld u94_Pr) [(0, .ref (ad 12)), (1, .int u94_x1), (2, .ref (ad 12)), (3, .int u94_x3), (4, .int u94_x4), (5, .int u94_x5), (6, .int x6), (7, .int x7), (8, .int x8)] := by
  unfold m_Tx_same_j125 at h
  intro H locs ls hP hS hl
  have C0 := C
  obtain ⟨hx, hb, -, -, -, hown, hts, hK, -, -⟩ := C0
  refine lv_istore (lv' := [(9, .int y0), (0, .ref (ad 12)), (1, .int u94_x1), (2, .ref (ad 12)), (3, .int u94_x3), (4, .int u94_x4), (5, .int u94_x5), (6, .int x6), (7, .int x7), (8, .int x8)]) hx hb d_Tx_same_125 hl (by decide) rfl (fun ls hl => ?_)
  refine lv_iload hx hb d_Tx_same_127 (lv_at hl 0 rfl) ?_
  refine lv_iconst (v := (-1:Int32)) hx hb d_Tx_same_129 (by decide) ?_
  refine lv_icmp_eq (tgt := 149) hx hb d_Tx_same_130 (by decide) (fun c8 => ?_) (fun c8 => ?_)
  · replace h := o_tt c8 h
    cases h
    exact h1 (Nat.succ_ne_zero 0) _ _ _ hP hS (lv_sub hl [] rfl)
  · replace h := o_ff c8 h
    refine lv_aload_n hx hb d_Tx_same_133 rfl (lv_at hl 1 rfl) ?_
    refine lv_iload hx hb d_Tx_same_134 (lv_at hl 7 rfl) ?_
    refine lv_aload_n hx hb d_Tx_same_136 rfl (lv_at hl 3 rfl) ?_
    refine lv_iload hx hb d_Tx_same_137 (lv_at hl 0 rfl) ?_
    refine lv_iload hx hb d_Tx_same_139 (lv_at hl 5 rfl) ?_
    refine lv_iconst (v := (1:Int32)) hx hb d_Tx_same_141 (by decide) ?_
    refine lv_iadd hx hb d_Tx_same_142 ?_
    obtain ⟨q9, hq9, h⟩ := o_bd_some h
    refine o_S (st1 := [.int q9]) (w1 := (o_cw ad ca u94_rt u94_Sj u94_T0 u94_a0 u94_Rd u94_Pg u94_Pt u94_Mk u94_Lk u94_Ck u94_Jd u94_Ld u94_Pr)) hE.1 C (hrec x6 y0 (u94_x4 + (1:Int32)) u94_a0 u94_Sj u94_T0 u94_Rd u94_Pg u94_Pt u94_Mk u94_Lk u94_Ck u94_Jd u94_Ld u94_Pr u94_rt _ hq9) hP (hDD _ _ _ _ _ _ _ _ _ _ _ _ _) hS hl.1 k_6_188 k_6_182 k_1_2 k_6_183 hs_Tx_same rfl rfl ⟨(by dsimp only [rm_Tx_same, rm_Tx_same]; omega), (by dsimp only [rm_Tx_same, rm_Tx_same]; omega)⟩ rfl (Nat.le_of_ble_eq_true rfl) ⟨Nat.zero_le _, Nat.zero_le _⟩ rfl d_Tx_same_143 (fun H locs hP hS => ?_)
    refine lv_if_ne (tgt := 151) hx hb d_Tx_same_146 (by decide) (fun c9 => ?_) (fun c9 => ?_)
    · replace h := o_ff c9 h
      refine lv_aload_n hx hb d_Tx_same_151 rfl (lv_at hl 1 rfl) ?_
      refine lv_iload hx hb d_Tx_same_152 (lv_at hl 7 rfl) ?_
      obtain ⟨q10, hq10, h⟩ := o_bd_some h
      refine o_V (st1 := [.int q10]) (w1 := (o_cw ad ca u94_rt u94_Sj u94_T0 u94_a0 u94_Rd u94_Pg u94_Pt u94_Mk u94_Lk u94_Ck u94_Jd u94_Ld u94_Pr)) hE.1 C (c_Tx_nextChild_1 hE l x6 u94_a0 u94_Sj u94_T0 u94_Rd u94_Pg u94_Pt u94_Mk u94_Lk u94_Ck u94_Jd u94_Ld u94_Pr u94_rt hq10) hP (hDD _ _ _ _ _ _ _ _ _ _ _ _ _) hS hl.1 rfl cw_12 k_3_221 k_3_222 k_3_223 k_1_2 k_3_224 hv_Tx_nextChild rfl rfl ⟨(by dsimp only [rm_Tx_same, rm_Tx_nextChild]; omega), (by dsimp only [rm_Tx_same, rm_Tx_nextChild]; omega)⟩ rfl (Nat.le_of_ble_eq_true rfl) ⟨Nat.zero_le _, Nat.zero_le _⟩ rfl d_Tx_same_154 (fun H locs hP hS => ?_)
      refine lv_istore (lv' := [(6, .int q10), (9, .int y0), (0, .ref (ad 12)), (1, .int u94_x1), (2, .ref (ad 12)), (3, .int u94_x3), (4, .int u94_x4), (5, .int u94_x5), (7, .int x7), (8, .int x8)]) hx hb d_Tx_same_157 hl (by decide) rfl (fun ls hl => ?_)
      refine lv_aload_n hx hb d_Tx_same_159 rfl (lv_at hl 4 rfl) ?_
      refine lv_iload hx hb d_Tx_same_160 (lv_at hl 8 rfl) ?_
      obtain ⟨q11, hq11, h⟩ := o_bd_some h
      refine o_V (st1 := [.int q11]) (w1 := (o_cw ad ca u94_rt u94_Sj u94_T0 u94_a0 u94_Rd u94_Pg u94_Pt u94_Mk u94_Lk u94_Ck u94_Jd u94_Ld u94_Pr)) hE.1 C (c_Tx_nextChild_1 hE l x7 u94_a0 u94_Sj u94_T0 u94_Rd u94_Pg u94_Pt u94_Mk u94_Lk u94_Ck u94_Jd u94_Ld u94_Pr u94_rt hq11) hP (hDD _ _ _ _ _ _ _ _ _ _ _ _ _) hS hl.1 rfl cw_12 k_3_221 k_3_222 k_3_223 k_1_2 k_3_224 hv_Tx_nextChild rfl rfl ⟨(by dsimp only [rm_Tx_same, rm_Tx_nextChild]; omega), (by dsimp only [rm_Tx_same, rm_Tx_nextChild]; omega)⟩ rfl (Nat.le_of_ble_eq_true rfl) ⟨Nat.zero_le _, Nat.zero_le _⟩ rfl d_Tx_same_162 (fun H locs hP hS => ?_)
      refine lv_istore (lv' := [(7, .int q11), (6, .int q10), (9, .int y0), (0, .ref (ad 12)), (1, .int u94_x1), (2, .ref (ad 12)), (3, .int u94_x3), (4, .int u94_x4), (5, .int u94_x5), (8, .int x8)]) hx hb d_Tx_same_165 hl (by decide) rfl (fun ls hl => ?_)
      obtain ⟨x8_167, ex8_167⟩ : ∃ y : Int32, y = x8 + (1:Int32) := ⟨_, rfl⟩
      replace h := o_nm_at ex8_167 h
      refine lv_iinc (v := x8_167) (lv' := [(8, .int x8_167), (7, .int q11), (6, .int q10), (9, .int y0), (0, .ref (ad 12)), (1, .int u94_x1), (2, .ref (ad 12)), (3, .int u94_x3), (4, .int u94_x4), (5, .int u94_x5)]) hx hb d_Tx_same_167 hl (k := 9) rfl (by rw [ex8_167]; rfl) (by decide) rfl (fun ls hl => ?_)
      refine lv_goto (tgt := 94) hx hb d_Tx_same_170 (by decide) ?_
      cases h
      exact h0 rfl _ _ _ hP hS (lv_sub hl [4, 5, 6, 7, 8, 9, 2, 1, 0] rfl)
    · replace h := o_tt c9 h
      cases h
      exact h1 (Nat.succ_ne_zero 0) _ _ _ hP hS (lv_sub hl [] rfl)
set_option maxHeartbeats 4000000 in
set_option maxRecDepth 100000 in
theorem w_Tx_same_b94_11 {E : (Nat → Prop) → State → Heap → Prop} {p : Program} {l : Launch} {e : Env} {s : State} {m : MethodId} {args : Array Value} {below : List Frame} {meth : Method} {c : Code} {D : va_G} {ad kd sd vd xd : Nat → Nat} {ca : Nat → ClassId} {A : Nat → Prop} {Q : State → Prop} (hE : o_EK E kd sd vd xd) (C : o_Cx E p s m args meth c D o_cls (o_tys ca) "SchemaJudge$Text" b_Tx_same (some .boolean) 10 cc_Tx_same A) (hDD : ∀ (rt : Nat) (Sj : SSJ) (T0 : STx) (T1 : STx) (Rd : SRd) (Pg : SPg) (Pt : SPt) (Mk : SMk) (Lk : SLk) (Ck : SCk) (Jd : SJd) (Ld : SLd) (Pr : SPr), va_D A (o_cw ad ca rt Sj T0 T1 Rd Pg Pt Mk Lk Ck Jd Ld Pr)) (d : Nat) (rec : Int32 → Int32 → Int32 → STx → STx → Option (Int32)) (hrec : ∀ (x1 : Int32) (x3 : Int32) (x4 : Int32) (a0 : STx) (Sj : SSJ) (T0 : STx) (Rd : SRd) (Pg : SPg) (Pt : SPt) (Mk : SMk) (Lk : SLk) (Ck : SCk) (Jd : SJd) (Ld : SLd) (Pr : SPr) (rt : Nat) (r : Int32), rec x1 x3 x4 a0 a0 = some r → o_Cn E l D o_cls (o_tys ca) y_Tx_same cc_Tx_same (rm_Tx_same d) [.ref (ad 12), .int x1, .ref (ad 12), .int x3, .int x4] (o_cw ad ca rt Sj T0 a0 Rd Pg Pt Mk Lk Ck Jd Ld Pr) (o_cw ad ca rt Sj T0 a0 Rd Pg Pt Mk Lk Ck Jd Ld Pr) (some (.int r))) (n : Nat) (u94_x1 : Int32) (u94_x3 : Int32) (u94_x4 : Int32) (u94_x5 : Int32) (u94_a0 : STx) (u94_Sj : SSJ) (u94_T0 : STx) (u94_Rd : SRd) (u94_Pg : SPg) (u94_Pt : SPt) (u94_Mk : SMk) (u94_Lk : SLk) (u94_Ck : SCk) (u94_Jd : SJd) (u94_Ld : SLd) (u94_Pr : SPr) (u94_rt : Nat) (z : Int32 × Int32 × Int32) (q : Nat × Int32 × Int32 × Int32) (h : m_Tx_same_b94 n rec u94_x1 u94_x3 u94_x4 u94_x5 u94_a0 u94_a0 z = some q) (h0 : q.1 = 0 → o_At p l e (rm_Tx_same (d + 1)) s m args below meth c Q o_cls D A 10 94 [] (o_cw ad ca u94_rt u94_Sj u94_T0 u94_a0 u94_Rd u94_Pg u94_Pt u94_Mk u94_Lk u94_Ck u94_Jd u94_Ld u94_Pr) [(0, .ref (ad 12)), (1, .int u94_x1), (2, .ref (ad 12)), (3, .int u94_x3), (4, .int u94_x4), (5, .int u94_x5), (6, .int q.2.1), (7, .int q.2.2.1), (8, .int q.2.2.2)]) (h1 : q.1 ≠ 0 → (if q.1 = 1 then o_At p l e (rm_Tx_same (d + 1)) s m args below meth c Q o_cls D A 10 149 [] (o_cw ad ca u94_rt u94_Sj u94_T0 u94_a0 u94_Rd u94_Pg u94_Pt u94_Mk u94_Lk u94_Ck u94_Jd u94_Ld u94_Pr) [] else o_At p l e (rm_Tx_same (d + 1)) s m args below meth c Q o_cls D A 10 173 [] (o_cw ad ca u94_rt u94_Sj u94_T0 u94_a0 u94_Rd u94_Pg u94_Pt u94_Mk u94_Lk u94_Ck u94_Jd u94_Ld u94_Pr) [])) : o_At p l e (rm_Tx_same (d + 1)) s m args below meth c Q o_cls D A 10 94 [] (o_cw ad ca u94_rt u94_Sj u94_T0 u94_a0 u94_Rd u94_Pg u94_Pt u94_Mk u94_Lk u94_Ck u94_Jd u94_Ld u94_Pr) [(0, .ref (ad 12)), (1, .int u94_x1), (2, .ref (ad 12)), (3, .int u94_x3), (4, .int u94_x4), (5, .int u94_x5), (6, .int z.1), (7, .int z.2.1), (8, .int z.2.2)] := by
  unfold m_Tx_same_b94 at h
  intro H locs ls hP hS hl
  have C0 := C
  obtain ⟨hx, hb, -, -, -, hown, hts, hK, -, -⟩ := C0
  refine lv_iload hx hb d_Tx_same_94 (lv_at hl 8 rfl) ?_
  refine lv_aload_n hx hb d_Tx_same_96 rfl (lv_at hl 0 rfl) ?_
  refine lv_iload_n hx hb d_Tx_same_97 rfl (lv_at hl 1 rfl) ?_
  obtain ⟨q7, hq7, h⟩ := o_bd_some h
  refine o_V (st1 := [.int q7, .int z.2.2]) (w1 := (o_cw ad ca u94_rt u94_Sj u94_T0 u94_a0 u94_Rd u94_Pg u94_Pt u94_Mk u94_Lk u94_Ck u94_Jd u94_Ld u94_Pr)) hE.1 C (c_Tx_size_1 hE l u94_x1 u94_a0 u94_Sj u94_T0 u94_Rd u94_Pg u94_Pt u94_Mk u94_Lk u94_Ck u94_Jd u94_Ld u94_Pr u94_rt hq7) hP (hDD _ _ _ _ _ _ _ _ _ _ _ _ _) hS hl.1 rfl cw_12 k_3_214 k_3_215 k_3_216 k_1_2 k_3_217 hv_Tx_size rfl rfl ⟨(by dsimp only [rm_Tx_same, rm_Tx_size]; omega), (by dsimp only [rm_Tx_same, rm_Tx_size]; omega)⟩ rfl (Nat.le_of_ble_eq_true rfl) ⟨Nat.zero_le _, Nat.zero_le _⟩ rfl d_Tx_same_98 (fun H locs hP hS => ?_)
  refine lv_icmp_ge (tgt := 173) hx hb d_Tx_same_101 (by decide) (fun c6 => ?_) (fun c6 => ?_)
  · replace h := o_tt c6 h
    cases h
    exact h1 (Nat.succ_ne_zero 1) _ _ _ hP hS (lv_sub hl [] rfl)
  · replace h := o_ff c6 h
    refine lv_iload hx hb d_Tx_same_104 (lv_at hl 5 rfl) ?_
    refine lv_iconst (v := (5:Int32)) hx hb d_Tx_same_106 (by decide) ?_
    refine lv_icmp_ne (tgt := 115) hx hb d_Tx_same_107 (by decide) (fun c7 => ?_) (fun c7 => ?_)
    · replace h := o_ff c7 h
      refine lv_aload_n hx hb d_Tx_same_115 rfl (lv_at hl 2 rfl) ?_
      refine lv_iload_n hx hb d_Tx_same_116 rfl (lv_at hl 3 rfl) ?_
      refine lv_aload_n hx hb d_Tx_same_117 rfl (lv_at hl 0 rfl) ?_
      refine lv_iload hx hb d_Tx_same_118 (lv_at hl 6 rfl) ?_
      refine lv_iconst (v := (1:Int32)) hx hb d_Tx_same_120 (by decide) ?_
      refine lv_isub hx hb d_Tx_same_121 ?_
      obtain ⟨q8, hq8, h⟩ := o_bd_some h
      refine o_V (st1 := [.int q8]) (w1 := (o_cw ad ca u94_rt u94_Sj u94_T0 u94_a0 u94_Rd u94_Pg u94_Pt u94_Mk u94_Lk u94_Ck u94_Jd u94_Ld u94_Pr)) hE.1 C (c_Tx_member_11 hE l n u94_x3 (z.1 - (1:Int32)) u94_a0 u94_Sj u94_T0 u94_Rd u94_Pg u94_Pt u94_Mk u94_Lk u94_Ck u94_Jd u94_Ld u94_Pr u94_rt hq8) hP (hDD _ _ _ _ _ _ _ _ _ _ _ _ _) hS hl.1 rfl cw_12 k_6_187 k_3_207 k_3_208 k_1_2 k_3_209 hv_Tx_member rfl rfl ⟨(by dsimp only [rm_Tx_same, rm_Tx_member]; omega), (by dsimp only [rm_Tx_same, rm_Tx_member]; omega)⟩ rfl (Nat.le_of_ble_eq_true rfl) ⟨Nat.zero_le _, Nat.zero_le _⟩ rfl d_Tx_same_122 (fun H locs hP hS => ?_)
      exact w_Tx_same_j125_11 hE C hDD d rec hrec n u94_x1 u94_x3 u94_x4 u94_x5 u94_a0 u94_Sj u94_T0 u94_Rd u94_Pg u94_Pt u94_Mk u94_Lk u94_Ck u94_Jd u94_Ld u94_Pr u94_rt z.1 z.2.1 z.2.2 q8 h h0 h1 _ _ _ hP hS (lv_sub hl [0, 1, 2, 3, 4, 5, 6, 7, 8] rfl)
    · replace h := o_tt c7 h
      refine lv_iload hx hb d_Tx_same_110 (lv_at hl 7 rfl) ?_
      refine lv_goto (tgt := 125) hx hb d_Tx_same_112 (by decide) ?_
      exact w_Tx_same_j125_11 hE C hDD d rec hrec n u94_x1 u94_x3 u94_x4 u94_x5 u94_a0 u94_Sj u94_T0 u94_Rd u94_Pg u94_Pt u94_Mk u94_Lk u94_Ck u94_Jd u94_Ld u94_Pr u94_rt z.1 z.2.1 z.2.2 z.2.1 h h0 h1 _ _ _ hP hS (lv_sub hl [0, 1, 2, 3, 4, 5, 6, 7, 8] rfl)
set_option maxHeartbeats 4000000 in
set_option maxRecDepth 100000 in
theorem c_Tx_same_11_F {E : (Nat → Prop) → State → Heap → Prop} {D : va_G} {ad kd sd vd xd : Nat → Nat} {ca : Nat → ClassId} (hE : o_EK E kd sd vd xd) (l : Launch) (n : Nat) (d : Nat) (rec : Int32 → Int32 → Int32 → STx → STx → Option (Int32)) (hrec : ∀ (x1 : Int32) (x3 : Int32) (x4 : Int32) (a0 : STx) (Sj : SSJ) (T0 : STx) (Rd : SRd) (Pg : SPg) (Pt : SPt) (Mk : SMk) (Lk : SLk) (Ck : SCk) (Jd : SJd) (Ld : SLd) (Pr : SPr) (rt : Nat) (r : Int32), rec x1 x3 x4 a0 a0 = some r → o_Cn E l D o_cls (o_tys ca) y_Tx_same cc_Tx_same (rm_Tx_same d) [.ref (ad 12), .int x1, .ref (ad 12), .int x3, .int x4] (o_cw ad ca rt Sj T0 a0 Rd Pg Pt Mk Lk Ck Jd Ld Pr) (o_cw ad ca rt Sj T0 a0 Rd Pg Pt Mk Lk Ck Jd Ld Pr) (some (.int r))) (x1 : Int32) (x3 : Int32) (x4 : Int32) (a0 : STx) (Sj : SSJ) (T0 : STx) (Rd : SRd) (Pg : SPg) (Pt : SPt) (Mk : SMk) (Lk : SLk) (Ck : SCk) (Jd : SJd) (Ld : SLd) (Pr : SPr) (rt : Nat) {r : Int32} (h : m_Tx_same_F n rec x1 x3 x4 a0 a0 = some r) : o_Cn E l D o_cls (o_tys ca) y_Tx_same cc_Tx_same (rm_Tx_same (d + 1)) [.ref (ad 12), .int x1, .ref (ad 12), .int x3, .int x4] (o_cw ad ca rt Sj T0 a0 Rd Pg Pt Mk Lk Ck Jd Ld Pr) (o_cw ad ca rt Sj T0 a0 Rd Pg Pt Mk Lk Ck Jd Ld Pr) (some (.int r)) := by
  refine o_Cn_of (by decide) (Nat.le_of_ble_eq_true rfl) ?_
  intro p e s m below meth c A ls C hD hP hS hl
  have hDD : ∀ (rt : Nat) (Sj : SSJ) (T0 : STx) (T1 : STx) (Rd : SRd) (Pg : SPg) (Pt : SPt) (Mk : SMk) (Lk : SLk) (Ck : SCk) (Jd : SJd) (Ld : SLd) (Pr : SPr), va_D A (o_cw ad ca rt Sj T0 T1 Rd Pg Pt Mk Lk Ck Jd Ld Pr) := fun _ _ _ _ _ _ _ _ _ _ _ _ _ => o_D_map hD rfl
  have hl : lv_has ls 10 [(0, .ref (ad 12)), (1, .int x1), (2, .ref (ad 12)), (3, .int x3), (4, .int x4)] := hl
  unfold m_Tx_same_F at h
  have C0 := C
  obtain ⟨hx, hb, -, -, -, hown, hts, hK, -, -⟩ := C0
  refine lv_aload_n hx hb d_Tx_same_0 rfl (lv_at hl 0 rfl) ?_
  refine lv_iload_n hx hb d_Tx_same_1 rfl (lv_at hl 1 rfl) ?_
  obtain ⟨q1, hq1, h⟩ := o_bd_some h
  refine o_V (st1 := [.int q1]) (w1 := (o_cw ad ca rt Sj T0 a0 Rd Pg Pt Mk Lk Ck Jd Ld Pr)) hE.1 C (c_Tx_kind_1 hE l x1 a0 Sj T0 Rd Pg Pt Mk Lk Ck Jd Ld Pr rt hq1) hP (hDD _ _ _ _ _ _ _ _ _ _ _ _ _) hS hl.1 rfl cw_12 k_5_64 k_4_50 k_4_51 k_1_2 k_4_52 hv_Tx_kind rfl rfl ⟨(by dsimp only [rm_Tx_same, rm_Tx_kind]; omega), (by dsimp only [rm_Tx_same, rm_Tx_kind]; omega)⟩ rfl (Nat.le_of_ble_eq_true rfl) ⟨Nat.zero_le _, Nat.zero_le _⟩ rfl d_Tx_same_2 (fun H locs hP hS => ?_)
  refine lv_istore (lv' := [(5, .int q1), (0, .ref (ad 12)), (1, .int x1), (2, .ref (ad 12)), (3, .int x3), (4, .int x4)]) hx hb d_Tx_same_5 hl (by decide) rfl (fun ls hl => ?_)
  refine lv_iload hx hb d_Tx_same_7 (lv_at hl 0 rfl) ?_
  refine lv_aload_n hx hb d_Tx_same_9 rfl (lv_at hl 3 rfl) ?_
  refine lv_iload_n hx hb d_Tx_same_10 rfl (lv_at hl 4 rfl) ?_
  obtain ⟨q2, hq2, h⟩ := o_bd_some h
  refine o_V (st1 := [.int q2, .int q1]) (w1 := (o_cw ad ca rt Sj T0 a0 Rd Pg Pt Mk Lk Ck Jd Ld Pr)) hE.1 C (c_Tx_kind_1 hE l x3 a0 Sj T0 Rd Pg Pt Mk Lk Ck Jd Ld Pr rt hq2) hP (hDD _ _ _ _ _ _ _ _ _ _ _ _ _) hS hl.1 rfl cw_12 k_5_64 k_4_50 k_4_51 k_1_2 k_4_52 hv_Tx_kind rfl rfl ⟨(by dsimp only [rm_Tx_same, rm_Tx_kind]; omega), (by dsimp only [rm_Tx_same, rm_Tx_kind]; omega)⟩ rfl (Nat.le_of_ble_eq_true rfl) ⟨Nat.zero_le _, Nat.zero_le _⟩ rfl d_Tx_same_11 (fun H locs hP hS => ?_)
  refine lv_icmp_ne (tgt := 24) hx hb d_Tx_same_14 (by decide) (fun c1 => ?_) (fun c1 => ?_)
  · replace h := o_ff c1 h
    refine lv_iconst (v := (0:Int32)) hx hb d_Tx_same_24 (by decide) ?_
    cases h
    exact o_rz (v := (0:Int32)) C o_nar0 hP hS d_Tx_same_25
  · replace h := o_tt c1 h
    refine lv_iload hx hb d_Tx_same_17 (lv_at hl 5 rfl) ?_
    refine lv_bipush (v := (40:Int32)) hx hb d_Tx_same_19 (by decide) ?_
    refine lv_icmp_le (tgt := 26) hx hb d_Tx_same_21 (by decide) (fun c2 => ?_) (fun c2 => ?_)
    · replace h := o_tt c2 h
      refine lv_iload hx hb d_Tx_same_26 (lv_at hl 0 rfl) ?_
      refine lv_iconst (v := (3:Int32)) hx hb d_Tx_same_28 (by decide) ?_
      refine lv_icmp_ne (tgt := 48) hx hb d_Tx_same_29 (by decide) (fun c3 => ?_) (fun c3 => ?_)
      · replace h := o_ff c3 h
        refine lv_iload hx hb d_Tx_same_48 (lv_at hl 0 rfl) ?_
        refine lv_iconst (v := (4:Int32)) hx hb d_Tx_same_50 (by decide) ?_
        refine lv_icmp_ne (tgt := 62) hx hb d_Tx_same_51 (by decide) (fun c4 => ?_) (fun c4 => ?_)
        · replace h := o_ff c4 h
          refine lv_aload_n hx hb d_Tx_same_62 rfl (lv_at hl 1 rfl) ?_
          refine lv_iload_n hx hb d_Tx_same_63 rfl (lv_at hl 2 rfl) ?_
          obtain ⟨q3, hq3, h⟩ := o_bd_some h
          refine o_V (st1 := [.int q3]) (w1 := (o_cw ad ca rt Sj T0 a0 Rd Pg Pt Mk Lk Ck Jd Ld Pr)) hE.1 C (c_Tx_size_1 hE l x1 a0 Sj T0 Rd Pg Pt Mk Lk Ck Jd Ld Pr rt hq3) hP (hDD _ _ _ _ _ _ _ _ _ _ _ _ _) hS hl.1 rfl cw_12 k_3_214 k_3_215 k_3_216 k_1_2 k_3_217 hv_Tx_size rfl rfl ⟨(by dsimp only [rm_Tx_same, rm_Tx_size]; omega), (by dsimp only [rm_Tx_same, rm_Tx_size]; omega)⟩ rfl (Nat.le_of_ble_eq_true rfl) ⟨Nat.zero_le _, Nat.zero_le _⟩ rfl d_Tx_same_64 (fun H locs hP hS => ?_)
          refine lv_aload_n hx hb d_Tx_same_67 rfl (lv_at hl 3 rfl) ?_
          refine lv_iload_n hx hb d_Tx_same_68 rfl (lv_at hl 4 rfl) ?_
          obtain ⟨q4, hq4, h⟩ := o_bd_some h
          refine o_V (st1 := [.int q4, .int q3]) (w1 := (o_cw ad ca rt Sj T0 a0 Rd Pg Pt Mk Lk Ck Jd Ld Pr)) hE.1 C (c_Tx_size_1 hE l x3 a0 Sj T0 Rd Pg Pt Mk Lk Ck Jd Ld Pr rt hq4) hP (hDD _ _ _ _ _ _ _ _ _ _ _ _ _) hS hl.1 rfl cw_12 k_3_214 k_3_215 k_3_216 k_1_2 k_3_217 hv_Tx_size rfl rfl ⟨(by dsimp only [rm_Tx_same, rm_Tx_size]; omega), (by dsimp only [rm_Tx_same, rm_Tx_size]; omega)⟩ rfl (Nat.le_of_ble_eq_true rfl) ⟨Nat.zero_le _, Nat.zero_le _⟩ rfl d_Tx_same_69 (fun H locs hP hS => ?_)
          refine lv_icmp_eq (tgt := 77) hx hb d_Tx_same_72 (by decide) (fun c5 => ?_) (fun c5 => ?_)
          · replace h := o_tt c5 h
            refine lv_aload_n hx hb d_Tx_same_77 rfl (lv_at hl 1 rfl) ?_
            refine lv_iload_n hx hb d_Tx_same_78 rfl (lv_at hl 2 rfl) ?_
            obtain ⟨q5, hq5, h⟩ := o_bd_some h
            refine o_V (st1 := [.int q5]) (w1 := (o_cw ad ca rt Sj T0 a0 Rd Pg Pt Mk Lk Ck Jd Ld Pr)) hE.1 C (c_Tx_firstChild_1 hE l x1 a0 Sj T0 Rd Pg Pt Mk Lk Ck Jd Ld Pr rt hq5) hP (hDD _ _ _ _ _ _ _ _ _ _ _ _ _) hS hl.1 rfl cw_12 k_3_210 k_3_211 k_3_212 k_1_2 k_3_213 hv_Tx_firstChild rfl rfl ⟨(by dsimp only [rm_Tx_same, rm_Tx_firstChild]; omega), (by dsimp only [rm_Tx_same, rm_Tx_firstChild]; omega)⟩ rfl (Nat.le_of_ble_eq_true rfl) ⟨Nat.zero_le _, Nat.zero_le _⟩ rfl d_Tx_same_79 (fun H locs hP hS => ?_)
            refine lv_istore (lv' := [(6, .int q5), (5, .int q1), (0, .ref (ad 12)), (1, .int x1), (2, .ref (ad 12)), (3, .int x3), (4, .int x4)]) hx hb d_Tx_same_82 hl (by decide) rfl (fun ls hl => ?_)
            refine lv_aload_n hx hb d_Tx_same_84 rfl (lv_at hl 4 rfl) ?_
            refine lv_iload_n hx hb d_Tx_same_85 rfl (lv_at hl 5 rfl) ?_
            obtain ⟨q6, hq6, h⟩ := o_bd_some h
            refine o_V (st1 := [.int q6]) (w1 := (o_cw ad ca rt Sj T0 a0 Rd Pg Pt Mk Lk Ck Jd Ld Pr)) hE.1 C (c_Tx_firstChild_1 hE l x3 a0 Sj T0 Rd Pg Pt Mk Lk Ck Jd Ld Pr rt hq6) hP (hDD _ _ _ _ _ _ _ _ _ _ _ _ _) hS hl.1 rfl cw_12 k_3_210 k_3_211 k_3_212 k_1_2 k_3_213 hv_Tx_firstChild rfl rfl ⟨(by dsimp only [rm_Tx_same, rm_Tx_firstChild]; omega), (by dsimp only [rm_Tx_same, rm_Tx_firstChild]; omega)⟩ rfl (Nat.le_of_ble_eq_true rfl) ⟨Nat.zero_le _, Nat.zero_le _⟩ rfl d_Tx_same_86 (fun H locs hP hS => ?_)
            refine lv_istore (lv' := [(7, .int q6), (6, .int q5), (5, .int q1), (0, .ref (ad 12)), (1, .int x1), (2, .ref (ad 12)), (3, .int x3), (4, .int x4)]) hx hb d_Tx_same_89 hl (by decide) rfl (fun ls hl => ?_)
            refine lv_iconst (v := (0:Int32)) hx hb d_Tx_same_91 (by decide) ?_
            refine lv_istore (lv' := [(8, .int (0:Int32)), (7, .int q6), (6, .int q5), (5, .int q1), (0, .ref (ad 12)), (1, .int x1), (2, .ref (ad 12)), (3, .int x3), (4, .int x4)]) hx hb d_Tx_same_92 hl (by decide) rfl (fun ls hl => ?_)
            obtain ⟨q12, hq12, h⟩ := o_bd_some h
            refine o_sim2 (AH := fun zz => o_At p l e (rm_Tx_same (d + 1)) s m _ below meth c _ o_cls D A 10 94 [] (o_cw ad ca rt Sj T0 a0 Rd Pg Pt Mk Lk Ck Jd Ld Pr) [(0, .ref (ad 12)), (1, .int x1), (2, .ref (ad 12)), (3, .int x3), (4, .int x4), (5, .int q1), (6, .int zz.1), (7, .int zz.2.1), (8, .int zz.2.2)]) (AX := fun qq => if qq.1 = 1 then o_At p l e (rm_Tx_same (d + 1)) s m _ below meth c _ o_cls D A 10 149 [] (o_cw ad ca rt Sj T0 a0 Rd Pg Pt Mk Lk Ck Jd Ld Pr) [] else o_At p l e (rm_Tx_same (d + 1)) s m _ below meth c _ o_cls D A 10 173 [] (o_cw ad ca rt Sj T0 a0 Rd Pg Pt Mk Lk Ck Jd Ld Pr) []) (fun zz qq h h0 h1 => w_Tx_same_b94_11 hE C hDD d rec hrec n x1 x3 x4 q1 a0 Sj T0 Rd Pg Pt Mk Lk Ck Jd Ld Pr rt zz qq h h0 h1) n _ q12 hq12 ?_ _ _ _ hP hS (lv_sub hl [4, 5, 6, 7, 8, 3, 2, 1, 0] rfl)
            by_cases c10 : q12.1 = 1
            · replace h := o_tt c10 h
              refine o_ip c10 ?_
              intro H locs ls hP hS hl
              refine lv_iconst (v := (0:Int32)) hx hb d_Tx_same_149 (by decide) ?_
              cases h
              exact o_rz (v := (0:Int32)) C o_nar0 hP hS d_Tx_same_150
            replace h := o_ff c10 h
            refine o_in_ c10 ?_
            intro H locs ls hP hS hl
            refine lv_iconst (v := (1:Int32)) hx hb d_Tx_same_173 (by decide) ?_
            cases h
            exact o_rz (v := (1:Int32)) C o_nar1 hP hS d_Tx_same_174
          · replace h := o_ff c5 h
            refine lv_iconst (v := (0:Int32)) hx hb d_Tx_same_75 (by decide) ?_
            cases h
            exact o_rz (v := (0:Int32)) C o_nar0 hP hS d_Tx_same_76
        · replace h := o_tt c4 h
          refine lv_aload_n hx hb d_Tx_same_54 rfl (lv_at hl 1 rfl) ?_
          refine lv_iload_n hx hb d_Tx_same_55 rfl (lv_at hl 2 rfl) ?_
          refine lv_aload_n hx hb d_Tx_same_56 rfl (lv_at hl 3 rfl) ?_
          refine lv_iload_n hx hb d_Tx_same_57 rfl (lv_at hl 4 rfl) ?_
          obtain ⟨q13, hq13, h⟩ := o_bd_some h
          refine o_S (st1 := [.int q13]) (w1 := (o_cw ad ca rt Sj T0 a0 Rd Pg Pt Mk Lk Ck Jd Ld Pr)) hE.1 C (c_Tx_sameString_11 hE l n x1 x3 a0 Sj T0 Rd Pg Pt Mk Lk Ck Jd Ld Pr rt hq13) hP (hDD _ _ _ _ _ _ _ _ _ _ _ _ _) hS hl.1 k_3_218 k_3_219 k_1_2 k_3_220 hs_Tx_sameString rfl rfl ⟨(by dsimp only [rm_Tx_same, rm_Tx_sameString]; omega), (by dsimp only [rm_Tx_same, rm_Tx_sameString]; omega)⟩ rfl (Nat.le_of_ble_eq_true rfl) ⟨Nat.zero_le _, Nat.zero_le _⟩ rfl d_Tx_same_58 (fun H locs hP hS => ?_)
          obtain ⟨g11, h⟩ := o_gd_some h
          cases h
          exact o_rz C (o_zb_nar g11) hP hS d_Tx_same_61
      · replace h := o_tt c3 h
        refine lv_aload_n hx hb d_Tx_same_32 rfl (lv_at hl 1 rfl) ?_
        refine lv_iload_n hx hb d_Tx_same_33 rfl (lv_at hl 2 rfl) ?_
        refine lv_aload_n hx hb d_Tx_same_34 rfl (lv_at hl 3 rfl) ?_
        refine lv_iload_n hx hb d_Tx_same_35 rfl (lv_at hl 4 rfl) ?_
        obtain ⟨q14, hq14, h⟩ := o_bd_some h
        refine o_S (st1 := [.int q14]) (w1 := (o_cw ad ca rt Sj T0 a0 Rd Pg Pt Mk Lk Ck Jd Ld Pr)) hE.1 C (c_Tx_compare_11 hE l n x1 x3 a0 Sj T0 Rd Pg Pt Mk Lk Ck Jd Ld Pr rt hq14) hP (hDD _ _ _ _ _ _ _ _ _ _ _ _ _) hS hl.1 k_6_184 k_6_185 k_1_2 k_6_186 hs_Tx_compare rfl rfl ⟨(by dsimp only [rm_Tx_same, rm_Tx_compare]; omega), (by dsimp only [rm_Tx_same, rm_Tx_compare]; omega)⟩ rfl (Nat.le_of_ble_eq_true rfl) ⟨Nat.zero_le _, Nat.zero_le _⟩ rfl d_Tx_same_36 (fun H locs hP hS => ?_)
        refine lv_if_ne (tgt := 46) hx hb d_Tx_same_39 (by decide) (fun c12 => ?_) (fun c12 => ?_)
        · replace h := o_ff c12 h
          refine lv_iconst (v := (0:Int32)) hx hb d_Tx_same_46 (by decide) ?_
          cases h
          exact o_rz (v := (0:Int32)) C o_nar0 hP hS d_Tx_same_47
        · replace h := o_tt c12 h
          refine lv_iconst (v := (1:Int32)) hx hb d_Tx_same_42 (by decide) ?_
          refine lv_goto (tgt := 47) hx hb d_Tx_same_43 (by decide) ?_
          cases h
          exact o_rz (v := (1:Int32)) C o_nar1 hP hS d_Tx_same_47
    · replace h := o_ff c2 h
      refine lv_iconst (v := (0:Int32)) hx hb d_Tx_same_24 (by decide) ?_
      cases h
      exact o_rz (v := (0:Int32)) C o_nar0 hP hS d_Tx_same_25
set_option maxHeartbeats 4000000 in
set_option maxRecDepth 100000 in
theorem c_Tx_same_11 {E : (Nat → Prop) → State → Heap → Prop} {D : va_G} {ad kd sd vd xd : Nat → Nat} {ca : Nat → ClassId} (hE : o_EK E kd sd vd xd) (l : Launch) (n : Nat) (d : Nat) (x1 : Int32) (x3 : Int32) (x4 : Int32) (a0 : STx) (Sj : SSJ) (T0 : STx) (Rd : SRd) (Pg : SPg) (Pt : SPt) (Mk : SMk) (Lk : SLk) (Ck : SCk) (Jd : SJd) (Ld : SLd) (Pr : SPr) (rt : Nat) {r : Int32} (h : m_Tx_same n d x1 x3 x4 a0 a0 = some r) : o_Cn E l D o_cls (o_tys ca) y_Tx_same cc_Tx_same (rm_Tx_same d) [.ref (ad 12), .int x1, .ref (ad 12), .int x3, .int x4] (o_cw ad ca rt Sj T0 a0 Rd Pg Pt Mk Lk Ck Jd Ld Pr) (o_cw ad ca rt Sj T0 a0 Rd Pg Pt Mk Lk Ck Jd Ld Pr) (some (.int r)) := by
  induction d generalizing x1 x3 x4 a0 Sj T0 Rd Pg Pt Mk Lk Ck Jd Ld Pr rt r with
  | zero => cases h
  | succ d ih =>
    exact c_Tx_same_11_F hE l n d (m_Tx_same n d) (fun x1 x3 x4 a0 Sj T0 Rd Pg Pt Mk Lk Ck Jd Ld Pr rt r h => ih x1 x3 x4 a0 Sj T0 Rd Pg Pt Mk Lk Ck Jd Ld Pr rt h) _ _ _ _ _ _ _ _ _ _ _ _ _ _ _ _ h
set_option maxHeartbeats 4000000 in
set_option maxRecDepth 100000 in
theorem w_Jd_allDiffer_b38 {E : (Nat → Prop) → State → Heap → Prop} {p : Program} {l : Launch} {e : Env} {s : State} {m : MethodId} {args : Array Value} {below : List Frame} {meth : Method} {c : Code} {D : va_G} {ad kd sd vd xd : Nat → Nat} {ca : Nat → ClassId} {A : Nat → Prop} {Q : State → Prop} (hE : o_EK E kd sd vd xd) (C : o_Cx E p s m args meth c D o_cls (o_tys ca) "SchemaJudge$Judge" b_Jd_allDiffer (some .boolean) 6 cc_Jd_allDiffer A) (hDD : ∀ (rt : Nat) (Sj : SSJ) (T0 : STx) (T1 : STx) (Rd : SRd) (Pg : SPg) (Pt : SPt) (Mk : SMk) (Lk : SLk) (Ck : SCk) (Jd : SJd) (Ld : SLd) (Pr : SPr), va_D A (o_cw ad ca rt Sj T0 T1 Rd Pg Pt Mk Lk Ck Jd Ld Pr)) (n : Nat) (u38_x1 : Int32) (u38_x2 : Int32) (u38_x3 : Int32) (u38_T1 : STx) (u38_Sj : SSJ) (u38_T0 : STx) (u38_Rd : SRd) (u38_Pg : SPg) (u38_Pt : SPt) (u38_Mk : SMk) (u38_Lk : SLk) (u38_Ck : SCk) (u38_Jd : SJd) (u38_Ld : SLd) (u38_Pr : SPr) (u38_rt : Nat) (z : Int32 × Int32) (q : Nat × Int32 × Int32) (h : m_Jd_allDiffer_b38 n u38_x1 u38_x2 u38_x3 u38_T1 z = some q) (h0 : q.1 = 0 → o_At p l e rm_Jd_allDiffer s m args below meth c Q o_cls D A 6 38 [] (o_cw ad ca u38_rt u38_Sj u38_T0 u38_T1 u38_Rd u38_Pg u38_Pt u38_Mk u38_Lk u38_Ck u38_Jd u38_Ld u38_Pr) [(0, .ref (ad 49)), (1, .int u38_x1), (2, .int u38_x2), (3, .int u38_x3), (4, .int q.2.1), (5, .int q.2.2)]) (h1 : q.1 ≠ 0 → (if q.1 = 1 then o_At p l e rm_Jd_allDiffer s m args below meth c Q o_cls D A 6 69 [] (o_cw ad ca u38_rt u38_Sj u38_T0 u38_T1 u38_Rd u38_Pg u38_Pt u38_Mk u38_Lk u38_Ck u38_Jd u38_Ld u38_Pr) [] else o_At p l e rm_Jd_allDiffer s m args below meth c Q o_cls D A 6 88 [] (o_cw ad ca u38_rt u38_Sj u38_T0 u38_T1 u38_Rd u38_Pg u38_Pt u38_Mk u38_Lk u38_Ck u38_Jd u38_Ld u38_Pr) [(0, .ref (ad 49)), (1, .int u38_x1), (2, .int u38_x2), (3, .int u38_x3)])) : o_At p l e rm_Jd_allDiffer s m args below meth c Q o_cls D A 6 38 [] (o_cw ad ca u38_rt u38_Sj u38_T0 u38_T1 u38_Rd u38_Pg u38_Pt u38_Mk u38_Lk u38_Ck u38_Jd u38_Ld u38_Pr) [(0, .ref (ad 49)), (1, .int u38_x1), (2, .int u38_x2), (3, .int u38_x3), (4, .int z.1), (5, .int z.2)] := by
  unfold m_Jd_allDiffer_b38 at h
  intro H locs ls hP hS hl
  have C0 := C
  obtain ⟨hx, hb, -, -, -, hown, hts, hK, -, -⟩ := C0
  refine lv_iload hx hb d_Jd_allDiffer_38 (lv_at hl 5 rfl) ?_
  refine lv_aload_n hx hb d_Jd_allDiffer_40 rfl (lv_at hl 0 rfl) ?_
  refine o_get (v := .ref (ad 12)) C in_Jd hP 49 cw_49 rfl 2 (by decide) k_2_76 rfl rfl d_Jd_allDiffer_41 ?_
  refine lv_iload_n hx hb d_Jd_allDiffer_44 rfl (lv_at hl 1 rfl) ?_
  obtain ⟨q4, hq4, h⟩ := o_bd_some h
  refine o_V (st1 := [.int q4, .int z.2]) (w1 := (o_cw ad ca u38_rt u38_Sj u38_T0 u38_T1 u38_Rd u38_Pg u38_Pt u38_Mk u38_Lk u38_Ck u38_Jd u38_Ld u38_Pr)) hE.1 C (c_Tx_size_1 hE l u38_x1 u38_T1 u38_Sj u38_T0 u38_Rd u38_Pg u38_Pt u38_Mk u38_Lk u38_Ck u38_Jd u38_Ld u38_Pr u38_rt hq4) hP (hDD _ _ _ _ _ _ _ _ _ _ _ _ _) hS hl.1 rfl cw_12 k_6_26 k_3_215 k_3_216 k_1_2 k_3_217 hv_Tx_size rfl rfl ⟨(Nat.le_of_ble_eq_true rfl), (Nat.le_of_ble_eq_true rfl)⟩ rfl (Nat.le_of_ble_eq_true rfl) ⟨Nat.zero_le _, Nat.zero_le _⟩ rfl d_Jd_allDiffer_45 (fun H locs hP hS => ?_)
  refine lv_icmp_ge (tgt := 88) hx hb d_Jd_allDiffer_48 (by decide) (fun c2 => ?_) (fun c2 => ?_)
  · replace h := o_tt c2 h
    cases h
    exact h1 (Nat.succ_ne_zero 1) _ _ _ hP hS (lv_sub hl [0, 1, 2, 3] rfl)
  · replace h := o_ff c2 h
    refine lv_aload_n hx hb d_Jd_allDiffer_51 rfl (lv_at hl 0 rfl) ?_
    refine o_get (v := .ref (ad 12)) C in_Jd hP 49 cw_49 rfl 2 (by decide) k_2_76 rfl rfl d_Jd_allDiffer_52 ?_
    refine lv_iload_n hx hb d_Jd_allDiffer_55 rfl (lv_at hl 2 rfl) ?_
    refine lv_aload_n hx hb d_Jd_allDiffer_56 rfl (lv_at hl 0 rfl) ?_
    refine o_get (v := .ref (ad 12)) C in_Jd hP 49 cw_49 rfl 2 (by decide) k_2_76 rfl rfl d_Jd_allDiffer_57 ?_
    refine lv_iload hx hb d_Jd_allDiffer_60 (lv_at hl 4 rfl) ?_
    refine lv_iconst (v := (0:Int32)) hx hb d_Jd_allDiffer_62 (by decide) ?_
    obtain ⟨q5, hq5, h⟩ := o_bd_some h
    refine o_S (st1 := [.int q5]) (w1 := (o_cw ad ca u38_rt u38_Sj u38_T0 u38_T1 u38_Rd u38_Pg u38_Pt u38_Mk u38_Lk u38_Ck u38_Jd u38_Ld u38_Pr)) hE.1 C (c_Tx_same_11 hE l n 43 u38_x2 z.1 (0:Int32) u38_T1 u38_Sj u38_T0 u38_Rd u38_Pg u38_Pt u38_Mk u38_Lk u38_Ck u38_Jd u38_Ld u38_Pr u38_rt hq5) hP (hDD _ _ _ _ _ _ _ _ _ _ _ _ _) hS hl.1 k_6_181 k_6_182 k_1_2 k_6_183 hs_Tx_same rfl rfl ⟨(Nat.le_of_ble_eq_true rfl), (Nat.le_of_ble_eq_true rfl)⟩ rfl (Nat.le_of_ble_eq_true rfl) ⟨Nat.zero_le _, Nat.zero_le _⟩ rfl d_Jd_allDiffer_63 (fun H locs hP hS => ?_)
    refine lv_if_eq (tgt := 71) hx hb d_Jd_allDiffer_66 (by decide) (fun c3 => ?_) (fun c3 => ?_)
    · replace h := o_tt c3 h
      refine lv_aload_n hx hb d_Jd_allDiffer_71 rfl (lv_at hl 0 rfl) ?_
      refine o_get (v := .ref (ad 12)) C in_Jd hP 49 cw_49 rfl 2 (by decide) k_2_76 rfl rfl d_Jd_allDiffer_72 ?_
      refine lv_iload hx hb d_Jd_allDiffer_75 (lv_at hl 4 rfl) ?_
      obtain ⟨q6, hq6, h⟩ := o_bd_some h
      refine o_V (st1 := [.int q6]) (w1 := (o_cw ad ca u38_rt u38_Sj u38_T0 u38_T1 u38_Rd u38_Pg u38_Pt u38_Mk u38_Lk u38_Ck u38_Jd u38_Ld u38_Pr)) hE.1 C (c_Tx_nextChild_1 hE l z.1 u38_T1 u38_Sj u38_T0 u38_Rd u38_Pg u38_Pt u38_Mk u38_Lk u38_Ck u38_Jd u38_Ld u38_Pr u38_rt hq6) hP (hDD _ _ _ _ _ _ _ _ _ _ _ _ _) hS hl.1 rfl cw_12 k_6_28 k_3_222 k_3_223 k_1_2 k_3_224 hv_Tx_nextChild rfl rfl ⟨(Nat.le_of_ble_eq_true rfl), (Nat.le_of_ble_eq_true rfl)⟩ rfl (Nat.le_of_ble_eq_true rfl) ⟨Nat.zero_le _, Nat.zero_le _⟩ rfl d_Jd_allDiffer_77 (fun H locs hP hS => ?_)
      refine lv_istore (lv' := [(4, .int q6), (0, .ref (ad 49)), (1, .int u38_x1), (2, .int u38_x2), (3, .int u38_x3), (5, .int z.2)]) hx hb d_Jd_allDiffer_80 hl (by decide) rfl (fun ls hl => ?_)
      obtain ⟨x5_82, ex5_82⟩ : ∃ y : Int32, y = z.2 + (1:Int32) := ⟨_, rfl⟩
      replace h := o_nm_at ex5_82 h
      refine lv_iinc (v := x5_82) (lv' := [(5, .int x5_82), (4, .int q6), (0, .ref (ad 49)), (1, .int u38_x1), (2, .int u38_x2), (3, .int u38_x3)]) hx hb d_Jd_allDiffer_82 hl (k := 5) rfl (by rw [ex5_82]; rfl) (by decide) rfl (fun ls hl => ?_)
      refine lv_goto (tgt := 38) hx hb d_Jd_allDiffer_85 (by decide) ?_
      cases h
      exact h0 rfl _ _ _ hP hS (lv_sub hl [2, 3, 4, 5, 1, 0] rfl)
    · replace h := o_ff c3 h
      cases h
      exact h1 (Nat.succ_ne_zero 0) _ _ _ hP hS (lv_sub hl [] rfl)
set_option maxHeartbeats 4000000 in
set_option maxRecDepth 100000 in
theorem w_Jd_allDiffer_b11 {E : (Nat → Prop) → State → Heap → Prop} {p : Program} {l : Launch} {e : Env} {s : State} {m : MethodId} {args : Array Value} {below : List Frame} {meth : Method} {c : Code} {D : va_G} {ad kd sd vd xd : Nat → Nat} {ca : Nat → ClassId} {A : Nat → Prop} {Q : State → Prop} (hE : o_EK E kd sd vd xd) (C : o_Cx E p s m args meth c D o_cls (o_tys ca) "SchemaJudge$Judge" b_Jd_allDiffer (some .boolean) 6 cc_Jd_allDiffer A) (hDD : ∀ (rt : Nat) (Sj : SSJ) (T0 : STx) (T1 : STx) (Rd : SRd) (Pg : SPg) (Pt : SPt) (Mk : SMk) (Lk : SLk) (Ck : SCk) (Jd : SJd) (Ld : SLd) (Pr : SPr), va_D A (o_cw ad ca rt Sj T0 T1 Rd Pg Pt Mk Lk Ck Jd Ld Pr)) (n : Nat) (u11_x1 : Int32) (u11_T1 : STx) (u11_Sj : SSJ) (u11_T0 : STx) (u11_Rd : SRd) (u11_Pg : SPg) (u11_Pt : SPt) (u11_Mk : SMk) (u11_Lk : SLk) (u11_Ck : SCk) (u11_Jd : SJd) (u11_Ld : SLd) (u11_Pr : SPr) (u11_rt : Nat) (z : Int32 × Int32) (q : Nat × Int32 × Int32) (h : m_Jd_allDiffer_b11 n u11_x1 u11_T1 z = some q) (h0 : q.1 = 0 → o_At p l e rm_Jd_allDiffer s m args below meth c Q o_cls D A 6 11 [] (o_cw ad ca u11_rt u11_Sj u11_T0 u11_T1 u11_Rd u11_Pg u11_Pt u11_Mk u11_Lk u11_Ck u11_Jd u11_Ld u11_Pr) [(0, .ref (ad 49)), (1, .int u11_x1), (2, .int q.2.1), (3, .int q.2.2)]) (h1 : q.1 ≠ 0 → (if q.1 = 1 then o_At p l e rm_Jd_allDiffer s m args below meth c Q o_cls D A 6 69 [] (o_cw ad ca u11_rt u11_Sj u11_T0 u11_T1 u11_Rd u11_Pg u11_Pt u11_Mk u11_Lk u11_Ck u11_Jd u11_Ld u11_Pr) [] else o_At p l e rm_Jd_allDiffer s m args below meth c Q o_cls D A 6 103 [] (o_cw ad ca u11_rt u11_Sj u11_T0 u11_T1 u11_Rd u11_Pg u11_Pt u11_Mk u11_Lk u11_Ck u11_Jd u11_Ld u11_Pr) [])) : o_At p l e rm_Jd_allDiffer s m args below meth c Q o_cls D A 6 11 [] (o_cw ad ca u11_rt u11_Sj u11_T0 u11_T1 u11_Rd u11_Pg u11_Pt u11_Mk u11_Lk u11_Ck u11_Jd u11_Ld u11_Pr) [(0, .ref (ad 49)), (1, .int u11_x1), (2, .int z.1), (3, .int z.2)] := by
  unfold m_Jd_allDiffer_b11 at h
  intro H locs ls hP hS hl
  have C0 := C
  obtain ⟨hx, hb, -, -, -, hown, hts, hK, -, -⟩ := C0
  refine lv_iload_n hx hb d_Jd_allDiffer_11 rfl (lv_at hl 3 rfl) ?_
  refine lv_aload_n hx hb d_Jd_allDiffer_12 rfl (lv_at hl 0 rfl) ?_
  refine o_get (v := .ref (ad 12)) C in_Jd hP 49 cw_49 rfl 2 (by decide) k_2_76 rfl rfl d_Jd_allDiffer_13 ?_
  refine lv_iload_n hx hb d_Jd_allDiffer_16 rfl (lv_at hl 1 rfl) ?_
  obtain ⟨q2, hq2, h⟩ := o_bd_some h
  refine o_V (st1 := [.int q2, .int z.2]) (w1 := (o_cw ad ca u11_rt u11_Sj u11_T0 u11_T1 u11_Rd u11_Pg u11_Pt u11_Mk u11_Lk u11_Ck u11_Jd u11_Ld u11_Pr)) hE.1 C (c_Tx_size_1 hE l u11_x1 u11_T1 u11_Sj u11_T0 u11_Rd u11_Pg u11_Pt u11_Mk u11_Lk u11_Ck u11_Jd u11_Ld u11_Pr u11_rt hq2) hP (hDD _ _ _ _ _ _ _ _ _ _ _ _ _) hS hl.1 rfl cw_12 k_6_26 k_3_215 k_3_216 k_1_2 k_3_217 hv_Tx_size rfl rfl ⟨(Nat.le_of_ble_eq_true rfl), (Nat.le_of_ble_eq_true rfl)⟩ rfl (Nat.le_of_ble_eq_true rfl) ⟨Nat.zero_le _, Nat.zero_le _⟩ rfl d_Jd_allDiffer_17 (fun H locs hP hS => ?_)
  refine lv_icmp_ge (tgt := 103) hx hb d_Jd_allDiffer_20 (by decide) (fun c1 => ?_) (fun c1 => ?_)
  · replace h := o_tt c1 h
    cases h
    exact h1 (Nat.succ_ne_zero 1) _ _ _ hP hS (lv_sub hl [] rfl)
  · replace h := o_ff c1 h
    refine lv_aload_n hx hb d_Jd_allDiffer_23 rfl (lv_at hl 0 rfl) ?_
    refine o_get (v := .ref (ad 12)) C in_Jd hP 49 cw_49 rfl 2 (by decide) k_2_76 rfl rfl d_Jd_allDiffer_24 ?_
    refine lv_iload_n hx hb d_Jd_allDiffer_27 rfl (lv_at hl 2 rfl) ?_
    obtain ⟨q3, hq3, h⟩ := o_bd_some h
    refine o_V (st1 := [.int q3]) (w1 := (o_cw ad ca u11_rt u11_Sj u11_T0 u11_T1 u11_Rd u11_Pg u11_Pt u11_Mk u11_Lk u11_Ck u11_Jd u11_Ld u11_Pr)) hE.1 C (c_Tx_nextChild_1 hE l z.1 u11_T1 u11_Sj u11_T0 u11_Rd u11_Pg u11_Pt u11_Mk u11_Lk u11_Ck u11_Jd u11_Ld u11_Pr u11_rt hq3) hP (hDD _ _ _ _ _ _ _ _ _ _ _ _ _) hS hl.1 rfl cw_12 k_6_28 k_3_222 k_3_223 k_1_2 k_3_224 hv_Tx_nextChild rfl rfl ⟨(Nat.le_of_ble_eq_true rfl), (Nat.le_of_ble_eq_true rfl)⟩ rfl (Nat.le_of_ble_eq_true rfl) ⟨Nat.zero_le _, Nat.zero_le _⟩ rfl d_Jd_allDiffer_28 (fun H locs hP hS => ?_)
    refine lv_istore (lv' := [(4, .int q3), (0, .ref (ad 49)), (1, .int u11_x1), (2, .int z.1), (3, .int z.2)]) hx hb d_Jd_allDiffer_31 hl (by decide) rfl (fun ls hl => ?_)
    refine lv_iload_n hx hb d_Jd_allDiffer_33 rfl (lv_at hl 4 rfl) ?_
    refine lv_iconst (v := (1:Int32)) hx hb d_Jd_allDiffer_34 (by decide) ?_
    refine lv_iadd hx hb d_Jd_allDiffer_35 ?_
    refine lv_topi (fun x5_36 ex5_36 => ?_)
    replace h := o_nm_at ex5_36 h
    refine lv_istore (lv' := [(5, .int x5_36), (4, .int q3), (0, .ref (ad 49)), (1, .int u11_x1), (2, .int z.1), (3, .int z.2)]) hx hb d_Jd_allDiffer_36 hl (by decide) rfl (fun ls hl => ?_)
    obtain ⟨q7, hq7, h⟩ := o_bd_some h
    refine o_sim2 (AH := fun zz => o_At p l e rm_Jd_allDiffer s m args below meth c _ o_cls D A 6 38 [] (o_cw ad ca u11_rt u11_Sj u11_T0 u11_T1 u11_Rd u11_Pg u11_Pt u11_Mk u11_Lk u11_Ck u11_Jd u11_Ld u11_Pr) [(0, .ref (ad 49)), (1, .int u11_x1), (2, .int z.1), (3, .int z.2), (4, .int zz.1), (5, .int zz.2)]) (AX := fun qq => if qq.1 = 1 then o_At p l e rm_Jd_allDiffer s m args below meth c _ o_cls D A 6 69 [] (o_cw ad ca u11_rt u11_Sj u11_T0 u11_T1 u11_Rd u11_Pg u11_Pt u11_Mk u11_Lk u11_Ck u11_Jd u11_Ld u11_Pr) [] else o_At p l e rm_Jd_allDiffer s m args below meth c _ o_cls D A 6 88 [] (o_cw ad ca u11_rt u11_Sj u11_T0 u11_T1 u11_Rd u11_Pg u11_Pt u11_Mk u11_Lk u11_Ck u11_Jd u11_Ld u11_Pr) [(0, .ref (ad 49)), (1, .int u11_x1), (2, .int z.1), (3, .int z.2)]) (fun zz qq h h0 h1 => w_Jd_allDiffer_b38 hE C hDD n u11_x1 z.1 z.2 u11_T1 u11_Sj u11_T0 u11_Rd u11_Pg u11_Pt u11_Mk u11_Lk u11_Ck u11_Jd u11_Ld u11_Pr u11_rt zz qq h h0 h1) n _ q7 hq7 ?_ _ _ _ hP hS (lv_sub hl [2, 3, 4, 5, 1, 0] rfl)
    by_cases c4 : q7.1 = 1
    · replace h := o_tt c4 h
      refine o_ip c4 ?_
      intro H locs ls hP hS hl
      cases h
      exact h1 (Nat.succ_ne_zero 0) _ _ _ hP hS (lv_sub hl [] rfl)
    replace h := o_ff c4 h
    refine o_in_ c4 ?_
    intro H locs ls hP hS hl
    refine lv_aload_n hx hb d_Jd_allDiffer_88 rfl (lv_at hl 0 rfl) ?_
    refine o_get (v := .ref (ad 12)) C in_Jd hP 49 cw_49 rfl 2 (by decide) k_2_76 rfl rfl d_Jd_allDiffer_89 ?_
    refine lv_iload_n hx hb d_Jd_allDiffer_92 rfl (lv_at hl 2 rfl) ?_
    obtain ⟨q8, hq8, h⟩ := o_bd_some h
    refine o_V (st1 := [.int q8]) (w1 := (o_cw ad ca u11_rt u11_Sj u11_T0 u11_T1 u11_Rd u11_Pg u11_Pt u11_Mk u11_Lk u11_Ck u11_Jd u11_Ld u11_Pr)) hE.1 C (c_Tx_nextChild_1 hE l z.1 u11_T1 u11_Sj u11_T0 u11_Rd u11_Pg u11_Pt u11_Mk u11_Lk u11_Ck u11_Jd u11_Ld u11_Pr u11_rt hq8) hP (hDD _ _ _ _ _ _ _ _ _ _ _ _ _) hS hl.1 rfl cw_12 k_6_28 k_3_222 k_3_223 k_1_2 k_3_224 hv_Tx_nextChild rfl rfl ⟨(Nat.le_of_ble_eq_true rfl), (Nat.le_of_ble_eq_true rfl)⟩ rfl (Nat.le_of_ble_eq_true rfl) ⟨Nat.zero_le _, Nat.zero_le _⟩ rfl d_Jd_allDiffer_93 (fun H locs hP hS => ?_)
    refine lv_istore_n (lv' := [(2, .int q8), (0, .ref (ad 49)), (1, .int u11_x1), (3, .int z.2)]) hx hb d_Jd_allDiffer_96 rfl hl (by decide) rfl (fun ls hl => ?_)
    obtain ⟨x3_97, ex3_97⟩ : ∃ y : Int32, y = z.2 + (1:Int32) := ⟨_, rfl⟩
    replace h := o_nm_at ex3_97 h
    refine lv_iinc (v := x3_97) (lv' := [(3, .int x3_97), (2, .int q8), (0, .ref (ad 49)), (1, .int u11_x1)]) hx hb d_Jd_allDiffer_97 hl (k := 3) rfl (by rw [ex3_97]; rfl) (by decide) rfl (fun ls hl => ?_)
    refine lv_goto (tgt := 11) hx hb d_Jd_allDiffer_100 (by decide) ?_
    cases h
    exact h0 rfl _ _ _ hP hS (lv_sub hl [2, 3, 1, 0] rfl)
set_option maxHeartbeats 4000000 in
set_option maxRecDepth 100000 in
theorem c_Jd_allDiffer {E : (Nat → Prop) → State → Heap → Prop} {D : va_G} {ad kd sd vd xd : Nat → Nat} {ca : Nat → ClassId} (hE : o_EK E kd sd vd xd) (l : Launch) (n : Nat) (x1 : Int32) (T1 : STx) (Sj : SSJ) (T0 : STx) (Rd : SRd) (Pg : SPg) (Pt : SPt) (Mk : SMk) (Lk : SLk) (Ck : SCk) (Jd : SJd) (Ld : SLd) (Pr : SPr) (rt : Nat) {r : Int32} (h : m_Jd_allDiffer n x1 T1 = some r) : o_Cn E l D o_cls (o_tys ca) y_Jd_allDiffer cc_Jd_allDiffer rm_Jd_allDiffer [.ref (ad 49), .int x1] (o_cw ad ca rt Sj T0 T1 Rd Pg Pt Mk Lk Ck Jd Ld Pr) (o_cw ad ca rt Sj T0 T1 Rd Pg Pt Mk Lk Ck Jd Ld Pr) (some (.int r)) := by
  refine o_Cn_of (by decide) (Nat.le_of_ble_eq_true rfl) ?_
  intro p e s m below meth c A ls C hD hP hS hl
  have hDD : ∀ (rt : Nat) (Sj : SSJ) (T0 : STx) (T1 : STx) (Rd : SRd) (Pg : SPg) (Pt : SPt) (Mk : SMk) (Lk : SLk) (Ck : SCk) (Jd : SJd) (Ld : SLd) (Pr : SPr), va_D A (o_cw ad ca rt Sj T0 T1 Rd Pg Pt Mk Lk Ck Jd Ld Pr) := fun _ _ _ _ _ _ _ _ _ _ _ _ _ => o_D_map hD rfl
  have hl : lv_has ls 6 [(0, .ref (ad 49)), (1, .int x1)] := hl
  unfold m_Jd_allDiffer at h
  have C0 := C
  obtain ⟨hx, hb, -, -, -, hown, hts, hK, -, -⟩ := C0
  refine lv_aload_n hx hb d_Jd_allDiffer_0 rfl (lv_at hl 0 rfl) ?_
  refine o_get (v := .ref (ad 12)) C in_Jd hP 49 cw_49 rfl 2 (by decide) k_2_76 rfl rfl d_Jd_allDiffer_1 ?_
  refine lv_iload_n hx hb d_Jd_allDiffer_4 rfl (lv_at hl 1 rfl) ?_
  obtain ⟨q1, hq1, h⟩ := o_bd_some h
  refine o_V (st1 := [.int q1]) (w1 := (o_cw ad ca rt Sj T0 T1 Rd Pg Pt Mk Lk Ck Jd Ld Pr)) hE.1 C (c_Tx_firstChild_1 hE l x1 T1 Sj T0 Rd Pg Pt Mk Lk Ck Jd Ld Pr rt hq1) hP (hDD _ _ _ _ _ _ _ _ _ _ _ _ _) hS hl.1 rfl cw_12 k_6_25 k_3_211 k_3_212 k_1_2 k_3_213 hv_Tx_firstChild rfl rfl ⟨(Nat.le_of_ble_eq_true rfl), (Nat.le_of_ble_eq_true rfl)⟩ rfl (Nat.le_of_ble_eq_true rfl) ⟨Nat.zero_le _, Nat.zero_le _⟩ rfl d_Jd_allDiffer_5 (fun H locs hP hS => ?_)
  refine lv_istore_n (lv' := [(2, .int q1), (0, .ref (ad 49)), (1, .int x1)]) hx hb d_Jd_allDiffer_8 rfl hl (by decide) rfl (fun ls hl => ?_)
  refine lv_iconst (v := (0:Int32)) hx hb d_Jd_allDiffer_9 (by decide) ?_
  refine lv_istore_n (lv' := [(3, .int (0:Int32)), (2, .int q1), (0, .ref (ad 49)), (1, .int x1)]) hx hb d_Jd_allDiffer_10 rfl hl (by decide) rfl (fun ls hl => ?_)
  obtain ⟨q9, hq9, h⟩ := o_bd_some h
  refine o_sim2 (AH := fun zz => o_At p l e rm_Jd_allDiffer s m _ below meth c _ o_cls D A 6 11 [] (o_cw ad ca rt Sj T0 T1 Rd Pg Pt Mk Lk Ck Jd Ld Pr) [(0, .ref (ad 49)), (1, .int x1), (2, .int zz.1), (3, .int zz.2)]) (AX := fun qq => if qq.1 = 1 then o_At p l e rm_Jd_allDiffer s m _ below meth c _ o_cls D A 6 69 [] (o_cw ad ca rt Sj T0 T1 Rd Pg Pt Mk Lk Ck Jd Ld Pr) [] else o_At p l e rm_Jd_allDiffer s m _ below meth c _ o_cls D A 6 103 [] (o_cw ad ca rt Sj T0 T1 Rd Pg Pt Mk Lk Ck Jd Ld Pr) []) (fun zz qq h h0 h1 => w_Jd_allDiffer_b11 hE C hDD n x1 T1 Sj T0 Rd Pg Pt Mk Lk Ck Jd Ld Pr rt zz qq h h0 h1) n _ q9 hq9 ?_ _ _ _ hP hS (lv_sub hl [2, 3, 1, 0] rfl)
  by_cases c5 : q9.1 = 1
  · replace h := o_tt c5 h
    refine o_ip c5 ?_
    intro H locs ls hP hS hl
    refine lv_iconst (v := (0:Int32)) hx hb d_Jd_allDiffer_69 (by decide) ?_
    cases h
    exact o_rz (v := (0:Int32)) C o_nar0 hP hS d_Jd_allDiffer_70
  replace h := o_ff c5 h
  refine o_in_ c5 ?_
  intro H locs ls hP hS hl
  refine lv_iconst (v := (1:Int32)) hx hb d_Jd_allDiffer_103 (by decide) ?_
  cases h
  exact o_rz (v := (1:Int32)) C o_nar1 hP hS d_Jd_allDiffer_104
set_option maxHeartbeats 4000000 in
set_option maxRecDepth 100000 in
theorem w_Jd_hasAll_b12 {E : (Nat → Prop) → State → Heap → Prop} {p : Program} {l : Launch} {e : Env} {s : State} {m : MethodId} {args : Array Value} {below : List Frame} {meth : Method} {c : Code} {D : va_G} {ad kd sd vd xd : Nat → Nat} {ca : Nat → ClassId} {A : Nat → Prop} {Q : State → Prop} (hE : o_EK E kd sd vd xd) (C : o_Cx E p s m args meth c D o_cls (o_tys ca) "SchemaJudge$Judge" b_Jd_hasAll (some .boolean) 5 cc_Jd_hasAll A) (hDD : ∀ (rt : Nat) (Sj : SSJ) (T0 : STx) (T1 : STx) (Rd : SRd) (Pg : SPg) (Pt : SPt) (Mk : SMk) (Lk : SLk) (Ck : SCk) (Jd : SJd) (Ld : SLd) (Pr : SPr), va_D A (o_cw ad ca rt Sj T0 T1 Rd Pg Pt Mk Lk Ck Jd Ld Pr)) (n : Nat) (u12_x1 : Int32) (u12_x2 : Int32) (u12_T0 : STx) (u12_T1 : STx) (u12_Sj : SSJ) (u12_Rd : SRd) (u12_Pg : SPg) (u12_Pt : SPt) (u12_Mk : SMk) (u12_Lk : SLk) (u12_Ck : SCk) (u12_Jd : SJd) (u12_Ld : SLd) (u12_Pr : SPr) (u12_rt : Nat) (z : Int32 × Int32) (q : Nat × Int32 × Int32) (h : m_Jd_hasAll_b12 n u12_x1 u12_x2 u12_T0 u12_T1 z = some q) (h0 : q.1 = 0 → o_At p l e rm_Jd_hasAll s m args below meth c Q o_cls D A 5 12 [] (o_cw ad ca u12_rt u12_Sj u12_T0 u12_T1 u12_Rd u12_Pg u12_Pt u12_Mk u12_Lk u12_Ck u12_Jd u12_Ld u12_Pr) [(0, .ref (ad 49)), (1, .int u12_x1), (2, .int u12_x2), (3, .int q.2.1), (4, .int q.2.2)]) (h1 : q.1 ≠ 0 → (if q.1 = 1 then o_At p l e rm_Jd_hasAll s m args below meth c Q o_cls D A 5 42 [] (o_cw ad ca u12_rt u12_Sj u12_T0 u12_T1 u12_Rd u12_Pg u12_Pt u12_Mk u12_Lk u12_Ck u12_Jd u12_Ld u12_Pr) [] else o_At p l e rm_Jd_hasAll s m args below meth c Q o_cls D A 5 59 [] (o_cw ad ca u12_rt u12_Sj u12_T0 u12_T1 u12_Rd u12_Pg u12_Pt u12_Mk u12_Lk u12_Ck u12_Jd u12_Ld u12_Pr) [])) : o_At p l e rm_Jd_hasAll s m args below meth c Q o_cls D A 5 12 [] (o_cw ad ca u12_rt u12_Sj u12_T0 u12_T1 u12_Rd u12_Pg u12_Pt u12_Mk u12_Lk u12_Ck u12_Jd u12_Ld u12_Pr) [(0, .ref (ad 49)), (1, .int u12_x1), (2, .int u12_x2), (3, .int z.1), (4, .int z.2)] := by
  unfold m_Jd_hasAll_b12 at h
  intro H locs ls hP hS hl
  have C0 := C
  obtain ⟨hx, hb, -, -, -, hown, hts, hK, -, -⟩ := C0
  refine lv_iload hx hb d_Jd_hasAll_12 (lv_at hl 4 rfl) ?_
  refine lv_aload_n hx hb d_Jd_hasAll_14 rfl (lv_at hl 0 rfl) ?_
  refine o_get (v := .ref (ad 1)) C in_Jd hP 49 cw_49 rfl 0 (by decide) k_2_74 rfl rfl d_Jd_hasAll_15 ?_
  refine lv_iload_n hx hb d_Jd_hasAll_18 rfl (lv_at hl 1 rfl) ?_
  obtain ⟨q2, hq2, h⟩ := o_bd_some h
  refine o_V (st1 := [.int q2, .int z.2]) (w1 := (o_cw ad ca u12_rt u12_Sj u12_T0 u12_T1 u12_Rd u12_Pg u12_Pt u12_Mk u12_Lk u12_Ck u12_Jd u12_Ld u12_Pr)) hE.1 C (c_Tx_size_0 hE l u12_x1 u12_T0 u12_Sj u12_T1 u12_Rd u12_Pg u12_Pt u12_Mk u12_Lk u12_Ck u12_Jd u12_Ld u12_Pr u12_rt hq2) hP (hDD _ _ _ _ _ _ _ _ _ _ _ _ _) hS hl.1 rfl cw_1 k_6_26 k_3_215 k_3_216 k_1_2 k_3_217 hv_Tx_size rfl rfl ⟨(Nat.le_of_ble_eq_true rfl), (Nat.le_of_ble_eq_true rfl)⟩ rfl (Nat.le_of_ble_eq_true rfl) ⟨Nat.zero_le _, Nat.zero_le _⟩ rfl d_Jd_hasAll_19 (fun H locs hP hS => ?_)
  refine lv_icmp_ge (tgt := 59) hx hb d_Jd_hasAll_22 (by decide) (fun c1 => ?_) (fun c1 => ?_)
  · replace h := o_tt c1 h
    cases h
    exact h1 (Nat.succ_ne_zero 1) _ _ _ hP hS (lv_sub hl [] rfl)
  · replace h := o_ff c1 h
    refine lv_aload_n hx hb d_Jd_hasAll_25 rfl (lv_at hl 0 rfl) ?_
    refine o_get (v := .ref (ad 12)) C in_Jd hP 49 cw_49 rfl 2 (by decide) k_2_76 rfl rfl d_Jd_hasAll_26 ?_
    refine lv_iload_n hx hb d_Jd_hasAll_29 rfl (lv_at hl 2 rfl) ?_
    refine lv_aload_n hx hb d_Jd_hasAll_30 rfl (lv_at hl 0 rfl) ?_
    refine o_get (v := .ref (ad 1)) C in_Jd hP 49 cw_49 rfl 0 (by decide) k_2_74 rfl rfl d_Jd_hasAll_31 ?_
    refine lv_iload_n hx hb d_Jd_hasAll_34 rfl (lv_at hl 3 rfl) ?_
    obtain ⟨q3, hq3, h⟩ := o_bd_some h
    refine o_V (st1 := [.int q3]) (w1 := (o_cw ad ca u12_rt u12_Sj u12_T0 u12_T1 u12_Rd u12_Pg u12_Pt u12_Mk u12_Lk u12_Ck u12_Jd u12_Ld u12_Pr)) hE.1 C (c_Tx_member_10 hE l n u12_x2 z.1 u12_T1 u12_T0 u12_Sj u12_Rd u12_Pg u12_Pt u12_Mk u12_Lk u12_Ck u12_Jd u12_Ld u12_Pr u12_rt hq3) hP (hDD _ _ _ _ _ _ _ _ _ _ _ _ _) hS hl.1 rfl cw_12 k_6_118 k_3_207 k_3_208 k_1_2 k_3_209 hv_Tx_member rfl rfl ⟨(Nat.le_of_ble_eq_true rfl), (Nat.le_of_ble_eq_true rfl)⟩ rfl (Nat.le_of_ble_eq_true rfl) ⟨Nat.zero_le _, Nat.zero_le _⟩ rfl d_Jd_hasAll_35 (fun H locs hP hS => ?_)
    refine lv_iconst (v := (-1:Int32)) hx hb d_Jd_hasAll_38 (by decide) ?_
    refine lv_icmp_ne (tgt := 44) hx hb d_Jd_hasAll_39 (by decide) (fun c2 => ?_) (fun c2 => ?_)
    · replace h := o_ff c2 h
      refine lv_aload_n hx hb d_Jd_hasAll_44 rfl (lv_at hl 0 rfl) ?_
      refine o_get (v := .ref (ad 1)) C in_Jd hP 49 cw_49 rfl 0 (by decide) k_2_74 rfl rfl d_Jd_hasAll_45 ?_
      refine lv_iload_n hx hb d_Jd_hasAll_48 rfl (lv_at hl 3 rfl) ?_
      obtain ⟨q4, hq4, h⟩ := o_bd_some h
      refine o_V (st1 := [.int q4]) (w1 := (o_cw ad ca u12_rt u12_Sj u12_T0 u12_T1 u12_Rd u12_Pg u12_Pt u12_Mk u12_Lk u12_Ck u12_Jd u12_Ld u12_Pr)) hE.1 C (c_Tx_nextChild_0 hE l z.1 u12_T0 u12_Sj u12_T1 u12_Rd u12_Pg u12_Pt u12_Mk u12_Lk u12_Ck u12_Jd u12_Ld u12_Pr u12_rt hq4) hP (hDD _ _ _ _ _ _ _ _ _ _ _ _ _) hS hl.1 rfl cw_1 k_6_28 k_3_222 k_3_223 k_1_2 k_3_224 hv_Tx_nextChild rfl rfl ⟨(Nat.le_of_ble_eq_true rfl), (Nat.le_of_ble_eq_true rfl)⟩ rfl (Nat.le_of_ble_eq_true rfl) ⟨Nat.zero_le _, Nat.zero_le _⟩ rfl d_Jd_hasAll_49 (fun H locs hP hS => ?_)
      refine lv_istore_n (lv' := [(3, .int q4), (0, .ref (ad 49)), (1, .int u12_x1), (2, .int u12_x2), (4, .int z.2)]) hx hb d_Jd_hasAll_52 rfl hl (by decide) rfl (fun ls hl => ?_)
      obtain ⟨x4_53, ex4_53⟩ : ∃ y : Int32, y = z.2 + (1:Int32) := ⟨_, rfl⟩
      replace h := o_nm_at ex4_53 h
      refine lv_iinc (v := x4_53) (lv' := [(4, .int x4_53), (3, .int q4), (0, .ref (ad 49)), (1, .int u12_x1), (2, .int u12_x2)]) hx hb d_Jd_hasAll_53 hl (k := 4) rfl (by rw [ex4_53]; rfl) (by decide) rfl (fun ls hl => ?_)
      refine lv_goto (tgt := 12) hx hb d_Jd_hasAll_56 (by decide) ?_
      cases h
      exact h0 rfl _ _ _ hP hS (lv_sub hl [2, 3, 4, 1, 0] rfl)
    · replace h := o_tt c2 h
      cases h
      exact h1 (Nat.succ_ne_zero 0) _ _ _ hP hS (lv_sub hl [] rfl)
set_option maxHeartbeats 4000000 in
set_option maxRecDepth 100000 in
theorem c_Jd_hasAll {E : (Nat → Prop) → State → Heap → Prop} {D : va_G} {ad kd sd vd xd : Nat → Nat} {ca : Nat → ClassId} (hE : o_EK E kd sd vd xd) (l : Launch) (n : Nat) (x1 : Int32) (x2 : Int32) (T0 : STx) (T1 : STx) (Sj : SSJ) (Rd : SRd) (Pg : SPg) (Pt : SPt) (Mk : SMk) (Lk : SLk) (Ck : SCk) (Jd : SJd) (Ld : SLd) (Pr : SPr) (rt : Nat) {r : Int32} (h : m_Jd_hasAll n x1 x2 T0 T1 = some r) : o_Cn E l D o_cls (o_tys ca) y_Jd_hasAll cc_Jd_hasAll rm_Jd_hasAll [.ref (ad 49), .int x1, .int x2] (o_cw ad ca rt Sj T0 T1 Rd Pg Pt Mk Lk Ck Jd Ld Pr) (o_cw ad ca rt Sj T0 T1 Rd Pg Pt Mk Lk Ck Jd Ld Pr) (some (.int r)) := by
  refine o_Cn_of (by decide) (Nat.le_of_ble_eq_true rfl) ?_
  intro p e s m below meth c A ls C hD hP hS hl
  have hDD : ∀ (rt : Nat) (Sj : SSJ) (T0 : STx) (T1 : STx) (Rd : SRd) (Pg : SPg) (Pt : SPt) (Mk : SMk) (Lk : SLk) (Ck : SCk) (Jd : SJd) (Ld : SLd) (Pr : SPr), va_D A (o_cw ad ca rt Sj T0 T1 Rd Pg Pt Mk Lk Ck Jd Ld Pr) := fun _ _ _ _ _ _ _ _ _ _ _ _ _ => o_D_map hD rfl
  have hl : lv_has ls 5 [(0, .ref (ad 49)), (1, .int x1), (2, .int x2)] := hl
  unfold m_Jd_hasAll at h
  have C0 := C
  obtain ⟨hx, hb, -, -, -, hown, hts, hK, -, -⟩ := C0
  refine lv_aload_n hx hb d_Jd_hasAll_0 rfl (lv_at hl 0 rfl) ?_
  refine o_get (v := .ref (ad 1)) C in_Jd hP 49 cw_49 rfl 0 (by decide) k_2_74 rfl rfl d_Jd_hasAll_1 ?_
  refine lv_iload_n hx hb d_Jd_hasAll_4 rfl (lv_at hl 1 rfl) ?_
  obtain ⟨q1, hq1, h⟩ := o_bd_some h
  refine o_V (st1 := [.int q1]) (w1 := (o_cw ad ca rt Sj T0 T1 Rd Pg Pt Mk Lk Ck Jd Ld Pr)) hE.1 C (c_Tx_firstChild_0 hE l x1 T0 Sj T1 Rd Pg Pt Mk Lk Ck Jd Ld Pr rt hq1) hP (hDD _ _ _ _ _ _ _ _ _ _ _ _ _) hS hl.1 rfl cw_1 k_6_25 k_3_211 k_3_212 k_1_2 k_3_213 hv_Tx_firstChild rfl rfl ⟨(Nat.le_of_ble_eq_true rfl), (Nat.le_of_ble_eq_true rfl)⟩ rfl (Nat.le_of_ble_eq_true rfl) ⟨Nat.zero_le _, Nat.zero_le _⟩ rfl d_Jd_hasAll_5 (fun H locs hP hS => ?_)
  refine lv_istore_n (lv' := [(3, .int q1), (0, .ref (ad 49)), (1, .int x1), (2, .int x2)]) hx hb d_Jd_hasAll_8 rfl hl (by decide) rfl (fun ls hl => ?_)
  refine lv_iconst (v := (0:Int32)) hx hb d_Jd_hasAll_9 (by decide) ?_
  refine lv_istore (lv' := [(4, .int (0:Int32)), (3, .int q1), (0, .ref (ad 49)), (1, .int x1), (2, .int x2)]) hx hb d_Jd_hasAll_10 hl (by decide) rfl (fun ls hl => ?_)
  obtain ⟨q5, hq5, h⟩ := o_bd_some h
  refine o_sim2 (AH := fun zz => o_At p l e rm_Jd_hasAll s m _ below meth c _ o_cls D A 5 12 [] (o_cw ad ca rt Sj T0 T1 Rd Pg Pt Mk Lk Ck Jd Ld Pr) [(0, .ref (ad 49)), (1, .int x1), (2, .int x2), (3, .int zz.1), (4, .int zz.2)]) (AX := fun qq => if qq.1 = 1 then o_At p l e rm_Jd_hasAll s m _ below meth c _ o_cls D A 5 42 [] (o_cw ad ca rt Sj T0 T1 Rd Pg Pt Mk Lk Ck Jd Ld Pr) [] else o_At p l e rm_Jd_hasAll s m _ below meth c _ o_cls D A 5 59 [] (o_cw ad ca rt Sj T0 T1 Rd Pg Pt Mk Lk Ck Jd Ld Pr) []) (fun zz qq h h0 h1 => w_Jd_hasAll_b12 hE C hDD n x1 x2 T0 T1 Sj Rd Pg Pt Mk Lk Ck Jd Ld Pr rt zz qq h h0 h1) n _ q5 hq5 ?_ _ _ _ hP hS (lv_sub hl [2, 3, 4, 1, 0] rfl)
  by_cases c3 : q5.1 = 1
  · replace h := o_tt c3 h
    refine o_ip c3 ?_
    intro H locs ls hP hS hl
    refine lv_iconst (v := (0:Int32)) hx hb d_Jd_hasAll_42 (by decide) ?_
    cases h
    exact o_rz (v := (0:Int32)) C o_nar0 hP hS d_Jd_hasAll_43
  replace h := o_ff c3 h
  refine o_in_ c3 ?_
  intro H locs ls hP hS hl
  refine lv_iconst (v := (1:Int32)) hx hb d_Jd_hasAll_59 (by decide) ?_
  cases h
  exact o_rz (v := (1:Int32)) C o_nar1 hP hS d_Jd_hasAll_60
set_option maxHeartbeats 4000000 in
set_option maxRecDepth 100000 in
theorem w_Jd_hasDependents_j55 {E : (Nat → Prop) → State → Heap → Prop} {p : Program} {l : Launch} {e : Env} {s : State} {m : MethodId} {args : Array Value} {below : List Frame} {meth : Method} {c : Code} {D : va_G} {ad kd sd vd xd : Nat → Nat} {ca : Nat → ClassId} {A : Nat → Prop} {Q : State → Prop} (hE : o_EK E kd sd vd xd) (C : o_Cx E p s m args meth c D o_cls (o_tys ca) "SchemaJudge$Judge" b_Jd_hasDependents (some .boolean) 5 cc_Jd_hasDependents A) (hDD : ∀ (rt : Nat) (Sj : SSJ) (T0 : STx) (T1 : STx) (Rd : SRd) (Pg : SPg) (Pt : SPt) (Mk : SMk) (Lk : SLk) (Ck : SCk) (Jd : SJd) (Ld : SLd) (Pr : SPr), va_D A (o_cw ad ca rt Sj T0 T1 Rd Pg Pt Mk Lk Ck Jd Ld Pr)) (n : Nat) (u12_x1 : Int32) (u12_x2 : Int32) (u12_T0 : STx) (u12_T1 : STx) (u12_Sj : SSJ) (u12_Rd : SRd) (u12_Pg : SPg) (u12_Pt : SPt) (u12_Mk : SMk) (u12_Lk : SLk) (u12_Ck : SCk) (u12_Jd : SJd) (u12_Ld : SLd) (u12_Pr : SPr) (u12_rt : Nat) (x3 : Int32) (x4 : Int32) {q : Nat × Int32 × Int32} (h : m_Jd_hasDependents_j55 n u12_x1 u12_x2 x3 x4 u12_T0 u12_T1 = some q) (h0 : q.1 = 0 → o_At p l e rm_Jd_hasDependents s m args below meth c Q o_cls D A 5 12 [] (o_cw ad ca u12_rt u12_Sj u12_T0 u12_T1 u12_Rd u12_Pg u12_Pt u12_Mk u12_Lk u12_Ck u12_Jd u12_Ld u12_Pr) [(0, .ref (ad 49)), (1, .int u12_x1), (2, .int u12_x2), (3, .int q.2.1), (4, .int q.2.2)]) (h1 : q.1 ≠ 0 → (if q.1 = 1 then o_At p l e rm_Jd_hasDependents s m args below meth c Q o_cls D A 5 53 [] (o_cw ad ca u12_rt u12_Sj u12_T0 u12_T1 u12_Rd u12_Pg u12_Pt u12_Mk u12_Lk u12_Ck u12_Jd u12_Ld u12_Pr) [] else o_At p l e rm_Jd_hasDependents s m args below meth c Q o_cls D A 5 70 [] (o_cw ad ca u12_rt u12_Sj u12_T0 u12_T1 u12_Rd u12_Pg u12_Pt u12_Mk u12_Lk u12_Ck u12_Jd u12_Ld u12_Pr) [])) : o_At p l e rm_Jd_hasDependents s m args below meth c Q o_cls D A 5 55 [] (o_cw ad ca u12_rt u12_Sj u12_T0 u12_T1 u12_Rd u12_Pg u12_Pt u12_Mk u12_Lk u12_Ck u12_Jd u12_Ld u12_Pr) [(0, .ref (ad 49)), (1, .int u12_x1), (2, .int u12_x2), (3, .int x3), (4, .int x4)] := by
  unfold m_Jd_hasDependents_j55 at h
  intro H locs ls hP hS hl
  have C0 := C
  obtain ⟨hx, hb, -, -, -, hown, hts, hK, -, -⟩ := C0
  refine lv_aload_n hx hb d_Jd_hasDependents_55 rfl (lv_at hl 0 rfl) ?_
  refine o_get (v := .ref (ad 1)) C in_Jd hP 49 cw_49 rfl 0 (by decide) k_2_74 rfl rfl d_Jd_hasDependents_56 ?_
  refine lv_iload_n hx hb d_Jd_hasDependents_59 rfl (lv_at hl 3 rfl) ?_
  obtain ⟨q4, hq4, h⟩ := o_bd_some h
  refine o_V (st1 := [.int q4]) (w1 := (o_cw ad ca u12_rt u12_Sj u12_T0 u12_T1 u12_Rd u12_Pg u12_Pt u12_Mk u12_Lk u12_Ck u12_Jd u12_Ld u12_Pr)) hE.1 C (c_Tx_nextChild_0 hE l x3 u12_T0 u12_Sj u12_T1 u12_Rd u12_Pg u12_Pt u12_Mk u12_Lk u12_Ck u12_Jd u12_Ld u12_Pr u12_rt hq4) hP (hDD _ _ _ _ _ _ _ _ _ _ _ _ _) hS hl.1 rfl cw_1 k_6_28 k_3_222 k_3_223 k_1_2 k_3_224 hv_Tx_nextChild rfl rfl ⟨(Nat.le_of_ble_eq_true rfl), (Nat.le_of_ble_eq_true rfl)⟩ rfl (Nat.le_of_ble_eq_true rfl) ⟨Nat.zero_le _, Nat.zero_le _⟩ rfl d_Jd_hasDependents_60 (fun H locs hP hS => ?_)
  refine lv_istore_n (lv' := [(3, .int q4), (0, .ref (ad 49)), (1, .int u12_x1), (2, .int u12_x2), (4, .int x4)]) hx hb d_Jd_hasDependents_63 rfl hl (by decide) rfl (fun ls hl => ?_)
  obtain ⟨x4_64, ex4_64⟩ : ∃ y : Int32, y = x4 + (1:Int32) := ⟨_, rfl⟩
  replace h := o_nm_at ex4_64 h
  refine lv_iinc (v := x4_64) (lv' := [(4, .int x4_64), (3, .int q4), (0, .ref (ad 49)), (1, .int u12_x1), (2, .int u12_x2)]) hx hb d_Jd_hasDependents_64 hl (k := 4) rfl (by rw [ex4_64]; rfl) (by decide) rfl (fun ls hl => ?_)
  refine lv_goto (tgt := 12) hx hb d_Jd_hasDependents_67 (by decide) ?_
  cases h
  exact h0 rfl _ _ _ hP hS (lv_sub hl [2, 3, 4, 1, 0] rfl)
set_option maxHeartbeats 4000000 in
set_option maxRecDepth 100000 in
theorem w_Jd_hasDependents_b12 {E : (Nat → Prop) → State → Heap → Prop} {p : Program} {l : Launch} {e : Env} {s : State} {m : MethodId} {args : Array Value} {below : List Frame} {meth : Method} {c : Code} {D : va_G} {ad kd sd vd xd : Nat → Nat} {ca : Nat → ClassId} {A : Nat → Prop} {Q : State → Prop} (hE : o_EK E kd sd vd xd) (C : o_Cx E p s m args meth c D o_cls (o_tys ca) "SchemaJudge$Judge" b_Jd_hasDependents (some .boolean) 5 cc_Jd_hasDependents A) (hDD : ∀ (rt : Nat) (Sj : SSJ) (T0 : STx) (T1 : STx) (Rd : SRd) (Pg : SPg) (Pt : SPt) (Mk : SMk) (Lk : SLk) (Ck : SCk) (Jd : SJd) (Ld : SLd) (Pr : SPr), va_D A (o_cw ad ca rt Sj T0 T1 Rd Pg Pt Mk Lk Ck Jd Ld Pr)) (n : Nat) (u12_x1 : Int32) (u12_x2 : Int32) (u12_T0 : STx) (u12_T1 : STx) (u12_Sj : SSJ) (u12_Rd : SRd) (u12_Pg : SPg) (u12_Pt : SPt) (u12_Mk : SMk) (u12_Lk : SLk) (u12_Ck : SCk) (u12_Jd : SJd) (u12_Ld : SLd) (u12_Pr : SPr) (u12_rt : Nat) (z : Int32 × Int32) (q : Nat × Int32 × Int32) (h : m_Jd_hasDependents_b12 n u12_x1 u12_x2 u12_T0 u12_T1 z = some q) (h0 : q.1 = 0 → o_At p l e rm_Jd_hasDependents s m args below meth c Q o_cls D A 5 12 [] (o_cw ad ca u12_rt u12_Sj u12_T0 u12_T1 u12_Rd u12_Pg u12_Pt u12_Mk u12_Lk u12_Ck u12_Jd u12_Ld u12_Pr) [(0, .ref (ad 49)), (1, .int u12_x1), (2, .int u12_x2), (3, .int q.2.1), (4, .int q.2.2)]) (h1 : q.1 ≠ 0 → (if q.1 = 1 then o_At p l e rm_Jd_hasDependents s m args below meth c Q o_cls D A 5 53 [] (o_cw ad ca u12_rt u12_Sj u12_T0 u12_T1 u12_Rd u12_Pg u12_Pt u12_Mk u12_Lk u12_Ck u12_Jd u12_Ld u12_Pr) [] else o_At p l e rm_Jd_hasDependents s m args below meth c Q o_cls D A 5 70 [] (o_cw ad ca u12_rt u12_Sj u12_T0 u12_T1 u12_Rd u12_Pg u12_Pt u12_Mk u12_Lk u12_Ck u12_Jd u12_Ld u12_Pr) [])) : o_At p l e rm_Jd_hasDependents s m args below meth c Q o_cls D A 5 12 [] (o_cw ad ca u12_rt u12_Sj u12_T0 u12_T1 u12_Rd u12_Pg u12_Pt u12_Mk u12_Lk u12_Ck u12_Jd u12_Ld u12_Pr) [(0, .ref (ad 49)), (1, .int u12_x1), (2, .int u12_x2), (3, .int z.1), (4, .int z.2)] := by
  unfold m_Jd_hasDependents_b12 at h
  intro H locs ls hP hS hl
  have C0 := C
  obtain ⟨hx, hb, -, -, -, hown, hts, hK, -, -⟩ := C0
  refine lv_iload hx hb d_Jd_hasDependents_12 (lv_at hl 4 rfl) ?_
  refine lv_aload_n hx hb d_Jd_hasDependents_14 rfl (lv_at hl 0 rfl) ?_
  refine o_get (v := .ref (ad 1)) C in_Jd hP 49 cw_49 rfl 0 (by decide) k_2_74 rfl rfl d_Jd_hasDependents_15 ?_
  refine lv_iload_n hx hb d_Jd_hasDependents_18 rfl (lv_at hl 1 rfl) ?_
  obtain ⟨q2, hq2, h⟩ := o_bd_some h
  refine o_V (st1 := [.int q2, .int z.2]) (w1 := (o_cw ad ca u12_rt u12_Sj u12_T0 u12_T1 u12_Rd u12_Pg u12_Pt u12_Mk u12_Lk u12_Ck u12_Jd u12_Ld u12_Pr)) hE.1 C (c_Tx_size_0 hE l u12_x1 u12_T0 u12_Sj u12_T1 u12_Rd u12_Pg u12_Pt u12_Mk u12_Lk u12_Ck u12_Jd u12_Ld u12_Pr u12_rt hq2) hP (hDD _ _ _ _ _ _ _ _ _ _ _ _ _) hS hl.1 rfl cw_1 k_6_26 k_3_215 k_3_216 k_1_2 k_3_217 hv_Tx_size rfl rfl ⟨(Nat.le_of_ble_eq_true rfl), (Nat.le_of_ble_eq_true rfl)⟩ rfl (Nat.le_of_ble_eq_true rfl) ⟨Nat.zero_le _, Nat.zero_le _⟩ rfl d_Jd_hasDependents_19 (fun H locs hP hS => ?_)
  refine lv_icmp_ge (tgt := 70) hx hb d_Jd_hasDependents_22 (by decide) (fun c1 => ?_) (fun c1 => ?_)
  · replace h := o_tt c1 h
    cases h
    exact h1 (Nat.succ_ne_zero 1) _ _ _ hP hS (lv_sub hl [] rfl)
  · replace h := o_ff c1 h
    refine lv_aload_n hx hb d_Jd_hasDependents_25 rfl (lv_at hl 0 rfl) ?_
    refine o_get (v := .ref (ad 12)) C in_Jd hP 49 cw_49 rfl 2 (by decide) k_2_76 rfl rfl d_Jd_hasDependents_26 ?_
    refine lv_iload_n hx hb d_Jd_hasDependents_29 rfl (lv_at hl 2 rfl) ?_
    refine lv_aload_n hx hb d_Jd_hasDependents_30 rfl (lv_at hl 0 rfl) ?_
    refine o_get (v := .ref (ad 1)) C in_Jd hP 49 cw_49 rfl 0 (by decide) k_2_74 rfl rfl d_Jd_hasDependents_31 ?_
    refine lv_iload_n hx hb d_Jd_hasDependents_34 rfl (lv_at hl 3 rfl) ?_
    refine lv_iconst (v := (1:Int32)) hx hb d_Jd_hasDependents_35 (by decide) ?_
    refine lv_isub hx hb d_Jd_hasDependents_36 ?_
    obtain ⟨q3, hq3, h⟩ := o_bd_some h
    refine o_V (st1 := [.int q3]) (w1 := (o_cw ad ca u12_rt u12_Sj u12_T0 u12_T1 u12_Rd u12_Pg u12_Pt u12_Mk u12_Lk u12_Ck u12_Jd u12_Ld u12_Pr)) hE.1 C (c_Tx_member_10 hE l n u12_x2 (z.1 - (1:Int32)) u12_T1 u12_T0 u12_Sj u12_Rd u12_Pg u12_Pt u12_Mk u12_Lk u12_Ck u12_Jd u12_Ld u12_Pr u12_rt hq3) hP (hDD _ _ _ _ _ _ _ _ _ _ _ _ _) hS hl.1 rfl cw_12 k_6_118 k_3_207 k_3_208 k_1_2 k_3_209 hv_Tx_member rfl rfl ⟨(Nat.le_of_ble_eq_true rfl), (Nat.le_of_ble_eq_true rfl)⟩ rfl (Nat.le_of_ble_eq_true rfl) ⟨Nat.zero_le _, Nat.zero_le _⟩ rfl d_Jd_hasDependents_37 (fun H locs hP hS => ?_)
    refine lv_iconst (v := (-1:Int32)) hx hb d_Jd_hasDependents_40 (by decide) ?_
    refine lv_icmp_eq (tgt := 55) hx hb d_Jd_hasDependents_41 (by decide) (fun c2 => ?_) (fun c2 => ?_)
    · replace h := o_tt c2 h
      exact w_Jd_hasDependents_j55 hE C hDD n u12_x1 u12_x2 u12_T0 u12_T1 u12_Sj u12_Rd u12_Pg u12_Pt u12_Mk u12_Lk u12_Ck u12_Jd u12_Ld u12_Pr u12_rt z.1 z.2 h h0 h1 _ _ _ hP hS (lv_sub hl [0, 1, 2, 3, 4] rfl)
    · replace h := o_ff c2 h
      refine lv_aload_n hx hb d_Jd_hasDependents_44 rfl (lv_at hl 0 rfl) ?_
      refine lv_iload_n hx hb d_Jd_hasDependents_45 rfl (lv_at hl 3 rfl) ?_
      refine lv_iload_n hx hb d_Jd_hasDependents_46 rfl (lv_at hl 2 rfl) ?_
      obtain ⟨q5, hq5, h⟩ := o_bd_some h
      refine o_V (st1 := [.int q5]) (w1 := (o_cw ad ca u12_rt u12_Sj u12_T0 u12_T1 u12_Rd u12_Pg u12_Pt u12_Mk u12_Lk u12_Ck u12_Jd u12_Ld u12_Pr)) hE.1 C (c_Jd_hasAll hE l n z.1 u12_x2 u12_T0 u12_T1 u12_Sj u12_Rd u12_Pg u12_Pt u12_Mk u12_Lk u12_Ck u12_Jd u12_Ld u12_Pr u12_rt hq5) hP (hDD _ _ _ _ _ _ _ _ _ _ _ _ _) hS hl.1 rfl cw_49 k_6_222 k_6_224 k_s_79 k_1_9 k_6_225 hv_Jd_hasAll rfl rfl ⟨(Nat.le_of_ble_eq_true rfl), (Nat.le_of_ble_eq_true rfl)⟩ rfl (Nat.le_of_ble_eq_true rfl) ⟨Nat.zero_le _, Nat.zero_le _⟩ rfl d_Jd_hasDependents_47 (fun H locs hP hS => ?_)
      refine lv_if_ne (tgt := 55) hx hb d_Jd_hasDependents_50 (by decide) (fun c3 => ?_) (fun c3 => ?_)
      · replace h := o_ff c3 h
        exact w_Jd_hasDependents_j55 hE C hDD n u12_x1 u12_x2 u12_T0 u12_T1 u12_Sj u12_Rd u12_Pg u12_Pt u12_Mk u12_Lk u12_Ck u12_Jd u12_Ld u12_Pr u12_rt z.1 z.2 h h0 h1 _ _ _ hP hS (lv_sub hl [0, 1, 2, 3, 4] rfl)
      · replace h := o_tt c3 h
        cases h
        exact h1 (Nat.succ_ne_zero 0) _ _ _ hP hS (lv_sub hl [] rfl)
set_option maxHeartbeats 4000000 in
set_option maxRecDepth 100000 in
theorem c_Jd_hasDependents {E : (Nat → Prop) → State → Heap → Prop} {D : va_G} {ad kd sd vd xd : Nat → Nat} {ca : Nat → ClassId} (hE : o_EK E kd sd vd xd) (l : Launch) (n : Nat) (x1 : Int32) (x2 : Int32) (T0 : STx) (T1 : STx) (Sj : SSJ) (Rd : SRd) (Pg : SPg) (Pt : SPt) (Mk : SMk) (Lk : SLk) (Ck : SCk) (Jd : SJd) (Ld : SLd) (Pr : SPr) (rt : Nat) {r : Int32} (h : m_Jd_hasDependents n x1 x2 T0 T1 = some r) : o_Cn E l D o_cls (o_tys ca) y_Jd_hasDependents cc_Jd_hasDependents rm_Jd_hasDependents [.ref (ad 49), .int x1, .int x2] (o_cw ad ca rt Sj T0 T1 Rd Pg Pt Mk Lk Ck Jd Ld Pr) (o_cw ad ca rt Sj T0 T1 Rd Pg Pt Mk Lk Ck Jd Ld Pr) (some (.int r)) := by
  refine o_Cn_of (by decide) (Nat.le_of_ble_eq_true rfl) ?_
  intro p e s m below meth c A ls C hD hP hS hl
  have hDD : ∀ (rt : Nat) (Sj : SSJ) (T0 : STx) (T1 : STx) (Rd : SRd) (Pg : SPg) (Pt : SPt) (Mk : SMk) (Lk : SLk) (Ck : SCk) (Jd : SJd) (Ld : SLd) (Pr : SPr), va_D A (o_cw ad ca rt Sj T0 T1 Rd Pg Pt Mk Lk Ck Jd Ld Pr) := fun _ _ _ _ _ _ _ _ _ _ _ _ _ => o_D_map hD rfl
  have hl : lv_has ls 5 [(0, .ref (ad 49)), (1, .int x1), (2, .int x2)] := hl
  unfold m_Jd_hasDependents at h
  have C0 := C
  obtain ⟨hx, hb, -, -, -, hown, hts, hK, -, -⟩ := C0
  refine lv_aload_n hx hb d_Jd_hasDependents_0 rfl (lv_at hl 0 rfl) ?_
  refine o_get (v := .ref (ad 1)) C in_Jd hP 49 cw_49 rfl 0 (by decide) k_2_74 rfl rfl d_Jd_hasDependents_1 ?_
  refine lv_iload_n hx hb d_Jd_hasDependents_4 rfl (lv_at hl 1 rfl) ?_
  obtain ⟨q1, hq1, h⟩ := o_bd_some h
  refine o_V (st1 := [.int q1]) (w1 := (o_cw ad ca rt Sj T0 T1 Rd Pg Pt Mk Lk Ck Jd Ld Pr)) hE.1 C (c_Tx_firstChild_0 hE l x1 T0 Sj T1 Rd Pg Pt Mk Lk Ck Jd Ld Pr rt hq1) hP (hDD _ _ _ _ _ _ _ _ _ _ _ _ _) hS hl.1 rfl cw_1 k_6_25 k_3_211 k_3_212 k_1_2 k_3_213 hv_Tx_firstChild rfl rfl ⟨(Nat.le_of_ble_eq_true rfl), (Nat.le_of_ble_eq_true rfl)⟩ rfl (Nat.le_of_ble_eq_true rfl) ⟨Nat.zero_le _, Nat.zero_le _⟩ rfl d_Jd_hasDependents_5 (fun H locs hP hS => ?_)
  refine lv_istore_n (lv' := [(3, .int q1), (0, .ref (ad 49)), (1, .int x1), (2, .int x2)]) hx hb d_Jd_hasDependents_8 rfl hl (by decide) rfl (fun ls hl => ?_)
  refine lv_iconst (v := (0:Int32)) hx hb d_Jd_hasDependents_9 (by decide) ?_
  refine lv_istore (lv' := [(4, .int (0:Int32)), (3, .int q1), (0, .ref (ad 49)), (1, .int x1), (2, .int x2)]) hx hb d_Jd_hasDependents_10 hl (by decide) rfl (fun ls hl => ?_)
  obtain ⟨q6, hq6, h⟩ := o_bd_some h
  refine o_sim2 (AH := fun zz => o_At p l e rm_Jd_hasDependents s m _ below meth c _ o_cls D A 5 12 [] (o_cw ad ca rt Sj T0 T1 Rd Pg Pt Mk Lk Ck Jd Ld Pr) [(0, .ref (ad 49)), (1, .int x1), (2, .int x2), (3, .int zz.1), (4, .int zz.2)]) (AX := fun qq => if qq.1 = 1 then o_At p l e rm_Jd_hasDependents s m _ below meth c _ o_cls D A 5 53 [] (o_cw ad ca rt Sj T0 T1 Rd Pg Pt Mk Lk Ck Jd Ld Pr) [] else o_At p l e rm_Jd_hasDependents s m _ below meth c _ o_cls D A 5 70 [] (o_cw ad ca rt Sj T0 T1 Rd Pg Pt Mk Lk Ck Jd Ld Pr) []) (fun zz qq h h0 h1 => w_Jd_hasDependents_b12 hE C hDD n x1 x2 T0 T1 Sj Rd Pg Pt Mk Lk Ck Jd Ld Pr rt zz qq h h0 h1) n _ q6 hq6 ?_ _ _ _ hP hS (lv_sub hl [2, 3, 4, 1, 0] rfl)
  by_cases c4 : q6.1 = 1
  · replace h := o_tt c4 h
    refine o_ip c4 ?_
    intro H locs ls hP hS hl
    refine lv_iconst (v := (0:Int32)) hx hb d_Jd_hasDependents_53 (by decide) ?_
    cases h
    exact o_rz (v := (0:Int32)) C o_nar0 hP hS d_Jd_hasDependents_54
  replace h := o_ff c4 h
  refine o_in_ c4 ?_
  intro H locs ls hP hS hl
  refine lv_iconst (v := (1:Int32)) hx hb d_Jd_hasDependents_70 (by decide) ?_
  cases h
  exact o_rz (v := (1:Int32)) C o_nar1 hP hS d_Jd_hasDependents_71
set_option maxHeartbeats 4000000 in
set_option maxRecDepth 100000 in
theorem w_Pr_sort_j71 {E : (Nat → Prop) → State → Heap → Prop} {p : Program} {l : Launch} {e : Env} {s : State} {m : MethodId} {args : Array Value} {below : List Frame} {meth : Method} {c : Code} {D : va_G} {ad kd sd vd xd : Nat → Nat} {ca : Nat → ClassId} {A : Nat → Prop} {Q : State → Prop} (hE : o_EK E kd sd vd xd) (C : o_Cx E p s m args meth c D o_cls (o_tys ca) "SchemaJudge$Pairs" b_Pr_sort none 5 cc_Pr_sort A) (hDD : ∀ (rt : Nat) (Sj : SSJ) (T0 : STx) (T1 : STx) (Rd : SRd) (Pg : SPg) (Pt : SPt) (Mk : SMk) (Lk : SLk) (Ck : SCk) (Jd : SJd) (Ld : SLd) (Pr : SPr), va_D A (o_cw ad ca rt Sj T0 T1 Rd Pg Pt Mk Lk Ck Jd Ld Pr)) (n : Nat) (u27_x1 : Int32) (u27_x2 : Int32) (u27_x3 : Int32) (u27_Sj : SSJ) (u27_T0 : STx) (u27_T1 : STx) (u27_Rd : SRd) (u27_Pg : SPg) (u27_Pt : SPt) (u27_Mk : SMk) (u27_Lk : SLk) (u27_Ck : SCk) (u27_Jd : SJd) (u27_Ld : SLd) (u27_rt : Nat) (x4 : Int32) (Pr : SPr) {q : Nat × Int32 × SPr} (h : m_Pr_sort_j71 n u27_x1 u27_x2 u27_x3 x4 Pr = some q) (h0 : q.1 = 0 → o_At p l e rm_Pr_sort s m args below meth c Q o_cls D A 5 27 [] (o_cw ad ca u27_rt u27_Sj u27_T0 u27_T1 u27_Rd u27_Pg u27_Pt u27_Mk u27_Lk u27_Ck u27_Jd u27_Ld q.2.2) [(0, .ref (ad 54)), (1, .int u27_x1), (2, .int u27_x2), (3, .int u27_x3), (4, .int q.2.1)]) (h1 : q.1 ≠ 0 → (o_At p l e rm_Pr_sort s m args below meth c Q o_cls D A 5 109 [] (o_cw ad ca u27_rt u27_Sj u27_T0 u27_T1 u27_Rd u27_Pg u27_Pt u27_Mk u27_Lk u27_Ck u27_Jd u27_Ld q.2.2) [(0, .ref (ad 54)), (1, .int u27_x1), (2, .int u27_x2), (3, .int u27_x3), (4, .int q.2.1)])) : o_At p l e rm_Pr_sort s m args below meth c Q o_cls D A 5 71 [] (o_cw ad ca u27_rt u27_Sj u27_T0 u27_T1 u27_Rd u27_Pg u27_Pt u27_Mk u27_Lk u27_Ck u27_Jd u27_Ld Pr) [(0, .ref (ad 54)), (1, .int u27_x1), (2, .int u27_x2), (3, .int u27_x3), (4, .int x4)] := by
  unfold m_Pr_sort_j71 at h
  intro H locs ls hP hS hl
  have C0 := C
  obtain ⟨hx, hb, -, -, -, hown, hts, hK, -, -⟩ := C0
  refine lv_aload_n hx hb d_Pr_sort_71 rfl (lv_at hl 0 rfl) ?_
  refine o_get (v := .ref (ad 55)) C in_Pr hP 54 cw_54 rfl 0 (by decide) k_2_64 rfl rfl d_Pr_sort_72 ?_
  refine lv_iload hx hb d_Pr_sort_75 (lv_at hl 4 rfl) ?_
  refine lv_aload_n hx hb d_Pr_sort_77 rfl (lv_at hl 0 rfl) ?_
  refine o_get (v := .ref (ad 55)) C in_Pr hP 54 cw_54 rfl 0 (by decide) k_2_64 rfl rfl d_Pr_sort_78 ?_
  refine lv_iload hx hb d_Pr_sort_81 (lv_at hl 4 rfl) ?_
  refine lv_iconst (v := (1:Int32)) hx hb d_Pr_sort_83 (by decide) ?_
  refine lv_isub hx hb d_Pr_sort_84 ?_
  obtain ⟨g7, h⟩ := o_gd_some h
  refine o_iald (f := (Pr_values Pr)) C hP 55 43 cw_55 rfl g7 d_Pr_sort_85 ?_
  obtain ⟨g8, h⟩ := o_gd_some h
  refine o_iast (f := (Pr_values Pr)) (w1 := (o_cw ad ca u27_rt u27_Sj u27_T0 u27_T1 u27_Rd u27_Pg u27_Pt u27_Mk u27_Lk u27_Ck u27_Jd u27_Ld (Pr_mk (upd (Pr_values Pr) x4.toNatClampNeg ((Pr_values Pr) (x4 - (1:Int32)).toNatClampNeg)) (Pr_keywords Pr) (Pr_size Pr)))) C hP (hDD _ _ _ _ _ _ _ _ _ _ _ _ _) hS 55 43 cw_55 rfl g8 rfl d_Pr_sort_86 (fun H locs hP hS => ?_)
  refine lv_aload_n hx hb d_Pr_sort_87 rfl (lv_at hl 0 rfl) ?_
  refine o_get (v := .ref (ad 56)) C in_Pr hP 54 cw_54 rfl 1 (by decide) k_2_65 rfl rfl d_Pr_sort_88 ?_
  refine lv_iload hx hb d_Pr_sort_91 (lv_at hl 4 rfl) ?_
  refine lv_aload_n hx hb d_Pr_sort_93 rfl (lv_at hl 0 rfl) ?_
  refine o_get (v := .ref (ad 56)) C in_Pr hP 54 cw_54 rfl 1 (by decide) k_2_65 rfl rfl d_Pr_sort_94 ?_
  refine lv_iload hx hb d_Pr_sort_97 (lv_at hl 4 rfl) ?_
  refine lv_iconst (v := (1:Int32)) hx hb d_Pr_sort_99 (by decide) ?_
  refine lv_isub hx hb d_Pr_sort_100 ?_
  obtain ⟨g9, h⟩ := o_gd_some h
  refine o_iald (f := (Pr_keywords Pr)) C hP 56 44 cw_56 rfl g9 d_Pr_sort_101 ?_
  obtain ⟨g10, h⟩ := o_gd_some h
  refine o_iast (f := (Pr_keywords Pr)) (w1 := (o_cw ad ca u27_rt u27_Sj u27_T0 u27_T1 u27_Rd u27_Pg u27_Pt u27_Mk u27_Lk u27_Ck u27_Jd u27_Ld (Pr_mk (upd (Pr_values Pr) x4.toNatClampNeg ((Pr_values Pr) (x4 - (1:Int32)).toNatClampNeg)) (upd (Pr_keywords Pr) x4.toNatClampNeg ((Pr_keywords Pr) (x4 - (1:Int32)).toNatClampNeg)) (Pr_size Pr)))) C hP (hDD _ _ _ _ _ _ _ _ _ _ _ _ _) hS 56 44 cw_56 rfl g10 rfl d_Pr_sort_102 (fun H locs hP hS => ?_)
  obtain ⟨x4_103, ex4_103⟩ : ∃ y : Int32, y = x4 + (-1:Int32) := ⟨_, rfl⟩
  replace h := o_nm_at ex4_103 h
  refine lv_iinc (v := x4_103) (lv' := [(4, .int x4_103), (0, .ref (ad 54)), (1, .int u27_x1), (2, .int u27_x2), (3, .int u27_x3)]) hx hb d_Pr_sort_103 hl (k := 4) rfl (by rw [ex4_103]; rfl) (by decide) rfl (fun ls hl => ?_)
  refine lv_goto (tgt := 27) hx hb d_Pr_sort_106 (by decide) ?_
  cases h
  exact h0 rfl _ _ _ hP hS (lv_sub hl [1, 2, 3, 4, 0] rfl)
set_option maxHeartbeats 4000000 in
set_option maxRecDepth 100000 in
theorem w_Pr_sort_b27 {E : (Nat → Prop) → State → Heap → Prop} {p : Program} {l : Launch} {e : Env} {s : State} {m : MethodId} {args : Array Value} {below : List Frame} {meth : Method} {c : Code} {D : va_G} {ad kd sd vd xd : Nat → Nat} {ca : Nat → ClassId} {A : Nat → Prop} {Q : State → Prop} (hE : o_EK E kd sd vd xd) (C : o_Cx E p s m args meth c D o_cls (o_tys ca) "SchemaJudge$Pairs" b_Pr_sort none 5 cc_Pr_sort A) (hDD : ∀ (rt : Nat) (Sj : SSJ) (T0 : STx) (T1 : STx) (Rd : SRd) (Pg : SPg) (Pt : SPt) (Mk : SMk) (Lk : SLk) (Ck : SCk) (Jd : SJd) (Ld : SLd) (Pr : SPr), va_D A (o_cw ad ca rt Sj T0 T1 Rd Pg Pt Mk Lk Ck Jd Ld Pr)) (n : Nat) (u27_x1 : Int32) (u27_x2 : Int32) (u27_x3 : Int32) (u27_Sj : SSJ) (u27_T0 : STx) (u27_T1 : STx) (u27_Rd : SRd) (u27_Pg : SPg) (u27_Pt : SPt) (u27_Mk : SMk) (u27_Lk : SLk) (u27_Ck : SCk) (u27_Jd : SJd) (u27_Ld : SLd) (u27_rt : Nat) (z : Int32 × SPr) (q : Nat × Int32 × SPr) (h : m_Pr_sort_b27 n u27_x1 u27_x2 u27_x3 z = some q) (h0 : q.1 = 0 → o_At p l e rm_Pr_sort s m args below meth c Q o_cls D A 5 27 [] (o_cw ad ca u27_rt u27_Sj u27_T0 u27_T1 u27_Rd u27_Pg u27_Pt u27_Mk u27_Lk u27_Ck u27_Jd u27_Ld q.2.2) [(0, .ref (ad 54)), (1, .int u27_x1), (2, .int u27_x2), (3, .int u27_x3), (4, .int q.2.1)]) (h1 : q.1 ≠ 0 → (o_At p l e rm_Pr_sort s m args below meth c Q o_cls D A 5 109 [] (o_cw ad ca u27_rt u27_Sj u27_T0 u27_T1 u27_Rd u27_Pg u27_Pt u27_Mk u27_Lk u27_Ck u27_Jd u27_Ld q.2.2) [(0, .ref (ad 54)), (1, .int u27_x1), (2, .int u27_x2), (3, .int u27_x3), (4, .int q.2.1)])) : o_At p l e rm_Pr_sort s m args below meth c Q o_cls D A 5 27 [] (o_cw ad ca u27_rt u27_Sj u27_T0 u27_T1 u27_Rd u27_Pg u27_Pt u27_Mk u27_Lk u27_Ck u27_Jd u27_Ld z.2) [(0, .ref (ad 54)), (1, .int u27_x1), (2, .int u27_x2), (3, .int u27_x3), (4, .int z.1)] := by
  unfold m_Pr_sort_b27 at h
  intro H locs ls hP hS hl
  have C0 := C
  obtain ⟨hx, hb, -, -, -, hown, hts, hK, -, -⟩ := C0
  refine lv_iload hx hb d_Pr_sort_27 (lv_at hl 4 rfl) ?_
  refine lv_if_le (tgt := 109) hx hb d_Pr_sort_29 (by decide) (fun c4 => ?_) (fun c4 => ?_)
  · replace h := o_tt c4 h
    cases h
    exact h1 (Nat.succ_ne_zero 0) _ _ _ hP hS (lv_sub hl [0, 1, 2, 3, 4] rfl)
  · replace h := o_ff c4 h
    refine lv_aload_n hx hb d_Pr_sort_32 rfl (lv_at hl 0 rfl) ?_
    refine o_get (v := .ref (ad 55)) C in_Pr hP 54 cw_54 rfl 0 (by decide) k_2_64 rfl rfl d_Pr_sort_33 ?_
    refine lv_iload hx hb d_Pr_sort_36 (lv_at hl 4 rfl) ?_
    refine lv_iconst (v := (1:Int32)) hx hb d_Pr_sort_38 (by decide) ?_
    refine lv_isub hx hb d_Pr_sort_39 ?_
    obtain ⟨g5, h⟩ := o_gd_some h
    refine o_iald (f := (Pr_values z.2)) C hP 55 43 cw_55 rfl g5 d_Pr_sort_40 ?_
    refine lv_iload_n hx hb d_Pr_sort_41 rfl (lv_at hl 2 rfl) ?_
    refine lv_icmp_gt (tgt := 71) hx hb d_Pr_sort_42 (by decide) (fun c6 => ?_) (fun c6 => ?_)
    · replace h := o_tt c6 h
      exact w_Pr_sort_j71 hE C hDD n u27_x1 u27_x2 u27_x3 u27_Sj u27_T0 u27_T1 u27_Rd u27_Pg u27_Pt u27_Mk u27_Lk u27_Ck u27_Jd u27_Ld u27_rt z.1 z.2 h h0 h1 _ _ _ hP hS (lv_sub hl [0, 1, 2, 3, 4] rfl)
    · replace h := o_ff c6 h
      refine lv_aload_n hx hb d_Pr_sort_45 rfl (lv_at hl 0 rfl) ?_
      refine o_get (v := .ref (ad 55)) C in_Pr hP 54 cw_54 rfl 0 (by decide) k_2_64 rfl rfl d_Pr_sort_46 ?_
      refine lv_iload hx hb d_Pr_sort_49 (lv_at hl 4 rfl) ?_
      refine lv_iconst (v := (1:Int32)) hx hb d_Pr_sort_51 (by decide) ?_
      refine lv_isub hx hb d_Pr_sort_52 ?_
      obtain ⟨g11, h⟩ := o_gd_some h
      refine o_iald (f := (Pr_values z.2)) C hP 55 43 cw_55 rfl g11 d_Pr_sort_53 ?_
      refine lv_iload_n hx hb d_Pr_sort_54 rfl (lv_at hl 2 rfl) ?_
      refine lv_icmp_ne (tgt := 109) hx hb d_Pr_sort_55 (by decide) (fun c12 => ?_) (fun c12 => ?_)
      · replace h := o_ff c12 h
        cases h
        exact h1 (Nat.succ_ne_zero 0) _ _ _ hP hS (lv_sub hl [0, 1, 2, 3, 4] rfl)
      · replace h := o_tt c12 h
        refine lv_aload_n hx hb d_Pr_sort_58 rfl (lv_at hl 0 rfl) ?_
        refine o_get (v := .ref (ad 56)) C in_Pr hP 54 cw_54 rfl 1 (by decide) k_2_65 rfl rfl d_Pr_sort_59 ?_
        refine lv_iload hx hb d_Pr_sort_62 (lv_at hl 4 rfl) ?_
        refine lv_iconst (v := (1:Int32)) hx hb d_Pr_sort_64 (by decide) ?_
        refine lv_isub hx hb d_Pr_sort_65 ?_
        obtain ⟨g13, h⟩ := o_gd_some h
        refine o_iald (f := (Pr_keywords z.2)) C hP 56 44 cw_56 rfl g13 d_Pr_sort_66 ?_
        refine lv_iload_n hx hb d_Pr_sort_67 rfl (lv_at hl 3 rfl) ?_
        refine lv_icmp_le (tgt := 109) hx hb d_Pr_sort_68 (by decide) (fun c14 => ?_) (fun c14 => ?_)
        · replace h := o_tt c14 h
          cases h
          exact h1 (Nat.succ_ne_zero 0) _ _ _ hP hS (lv_sub hl [0, 1, 2, 3, 4] rfl)
        · replace h := o_ff c14 h
          exact w_Pr_sort_j71 hE C hDD n u27_x1 u27_x2 u27_x3 u27_Sj u27_T0 u27_T1 u27_Rd u27_Pg u27_Pt u27_Mk u27_Lk u27_Ck u27_Jd u27_Ld u27_rt z.1 z.2 h h0 h1 _ _ _ hP hS (lv_sub hl [0, 1, 2, 3, 4] rfl)
set_option maxHeartbeats 4000000 in
set_option maxRecDepth 100000 in
theorem w_Pr_sort_j109 {E : (Nat → Prop) → State → Heap → Prop} {p : Program} {l : Launch} {e : Env} {s : State} {m : MethodId} {args : Array Value} {below : List Frame} {meth : Method} {c : Code} {D : va_G} {ad kd sd vd xd : Nat → Nat} {ca : Nat → ClassId} {A : Nat → Prop} {Q : State → Prop} (hE : o_EK E kd sd vd xd) (C : o_Cx E p s m args meth c D o_cls (o_tys ca) "SchemaJudge$Pairs" b_Pr_sort none 5 cc_Pr_sort A) (hDD : ∀ (rt : Nat) (Sj : SSJ) (T0 : STx) (T1 : STx) (Rd : SRd) (Pg : SPg) (Pt : SPt) (Mk : SMk) (Lk : SLk) (Ck : SCk) (Jd : SJd) (Ld : SLd) (Pr : SPr), va_D A (o_cw ad ca rt Sj T0 T1 Rd Pg Pt Mk Lk Ck Jd Ld Pr)) (n : Nat) (u2_Sj : SSJ) (u2_T0 : STx) (u2_T1 : STx) (u2_Rd : SRd) (u2_Pg : SPg) (u2_Pt : SPt) (u2_Mk : SMk) (u2_Lk : SLk) (u2_Ck : SCk) (u2_Jd : SJd) (u2_Ld : SLd) (u2_rt : Nat) (x1 : Int32) (x2 : Int32) (x3 : Int32) (x4 : Int32) (Pr : SPr) {q : Nat × Int32 × SPr} (h : m_Pr_sort_j109 n x1 x2 x3 x4 Pr = some q) (h0 : q.1 = 0 → o_At p l e rm_Pr_sort s m args below meth c Q o_cls D A 5 2 [] (o_cw ad ca u2_rt u2_Sj u2_T0 u2_T1 u2_Rd u2_Pg u2_Pt u2_Mk u2_Lk u2_Ck u2_Jd u2_Ld q.2.2) [(0, .ref (ad 54)), (1, .int q.2.1)]) (h1 : q.1 ≠ 0 → (o_At p l e rm_Pr_sort s m args below meth c Q o_cls D A 5 131 [] (o_cw ad ca u2_rt u2_Sj u2_T0 u2_T1 u2_Rd u2_Pg u2_Pt u2_Mk u2_Lk u2_Ck u2_Jd u2_Ld q.2.2) [])) : o_At p l e rm_Pr_sort s m args below meth c Q o_cls D A 5 109 [] (o_cw ad ca u2_rt u2_Sj u2_T0 u2_T1 u2_Rd u2_Pg u2_Pt u2_Mk u2_Lk u2_Ck u2_Jd u2_Ld Pr) [(0, .ref (ad 54)), (1, .int x1), (2, .int x2), (3, .int x3), (4, .int x4)] := by
  unfold m_Pr_sort_j109 at h
  intro H locs ls hP hS hl
  have C0 := C
  obtain ⟨hx, hb, -, -, -, hown, hts, hK, -, -⟩ := C0
  refine lv_aload_n hx hb d_Pr_sort_109 rfl (lv_at hl 0 rfl) ?_
  refine o_get (v := .ref (ad 55)) C in_Pr hP 54 cw_54 rfl 0 (by decide) k_2_64 rfl rfl d_Pr_sort_110 ?_
  refine lv_iload hx hb d_Pr_sort_113 (lv_at hl 4 rfl) ?_
  refine lv_iload_n hx hb d_Pr_sort_115 rfl (lv_at hl 2 rfl) ?_
  obtain ⟨g15, h⟩ := o_gd_some h
  refine o_iast (f := (Pr_values Pr)) (w1 := (o_cw ad ca u2_rt u2_Sj u2_T0 u2_T1 u2_Rd u2_Pg u2_Pt u2_Mk u2_Lk u2_Ck u2_Jd u2_Ld (Pr_mk (upd (Pr_values Pr) x4.toNatClampNeg x2) (Pr_keywords Pr) (Pr_size Pr)))) C hP (hDD _ _ _ _ _ _ _ _ _ _ _ _ _) hS 55 43 cw_55 rfl g15 rfl d_Pr_sort_116 (fun H locs hP hS => ?_)
  refine lv_aload_n hx hb d_Pr_sort_117 rfl (lv_at hl 0 rfl) ?_
  refine o_get (v := .ref (ad 56)) C in_Pr hP 54 cw_54 rfl 1 (by decide) k_2_65 rfl rfl d_Pr_sort_118 ?_
  refine lv_iload hx hb d_Pr_sort_121 (lv_at hl 4 rfl) ?_
  refine lv_iload_n hx hb d_Pr_sort_123 rfl (lv_at hl 3 rfl) ?_
  obtain ⟨g16, h⟩ := o_gd_some h
  refine o_iast (f := (Pr_keywords Pr)) (w1 := (o_cw ad ca u2_rt u2_Sj u2_T0 u2_T1 u2_Rd u2_Pg u2_Pt u2_Mk u2_Lk u2_Ck u2_Jd u2_Ld (Pr_mk (upd (Pr_values Pr) x4.toNatClampNeg x2) (upd (Pr_keywords Pr) x4.toNatClampNeg x3) (Pr_size Pr)))) C hP (hDD _ _ _ _ _ _ _ _ _ _ _ _ _) hS 56 44 cw_56 rfl g16 rfl d_Pr_sort_124 (fun H locs hP hS => ?_)
  obtain ⟨x1_125, ex1_125⟩ : ∃ y : Int32, y = x1 + (1:Int32) := ⟨_, rfl⟩
  replace h := o_nm_at ex1_125 h
  refine lv_iinc (v := x1_125) (lv' := [(1, .int x1_125), (0, .ref (ad 54)), (2, .int x2), (3, .int x3), (4, .int x4)]) hx hb d_Pr_sort_125 hl (k := 1) rfl (by rw [ex1_125]; rfl) (by decide) rfl (fun ls hl => ?_)
  refine lv_goto (tgt := 2) hx hb d_Pr_sort_128 (by decide) ?_
  cases h
  exact h0 rfl _ _ _ hP hS (lv_sub hl [1, 0] rfl)
set_option maxHeartbeats 4000000 in
set_option maxRecDepth 100000 in
theorem w_Pr_sort_b2 {E : (Nat → Prop) → State → Heap → Prop} {p : Program} {l : Launch} {e : Env} {s : State} {m : MethodId} {args : Array Value} {below : List Frame} {meth : Method} {c : Code} {D : va_G} {ad kd sd vd xd : Nat → Nat} {ca : Nat → ClassId} {A : Nat → Prop} {Q : State → Prop} (hE : o_EK E kd sd vd xd) (C : o_Cx E p s m args meth c D o_cls (o_tys ca) "SchemaJudge$Pairs" b_Pr_sort none 5 cc_Pr_sort A) (hDD : ∀ (rt : Nat) (Sj : SSJ) (T0 : STx) (T1 : STx) (Rd : SRd) (Pg : SPg) (Pt : SPt) (Mk : SMk) (Lk : SLk) (Ck : SCk) (Jd : SJd) (Ld : SLd) (Pr : SPr), va_D A (o_cw ad ca rt Sj T0 T1 Rd Pg Pt Mk Lk Ck Jd Ld Pr)) (n : Nat) (u2_Sj : SSJ) (u2_T0 : STx) (u2_T1 : STx) (u2_Rd : SRd) (u2_Pg : SPg) (u2_Pt : SPt) (u2_Mk : SMk) (u2_Lk : SLk) (u2_Ck : SCk) (u2_Jd : SJd) (u2_Ld : SLd) (u2_rt : Nat) (z : Int32 × SPr) (q : Nat × Int32 × SPr) (h : m_Pr_sort_b2 n z = some q) (h0 : q.1 = 0 → o_At p l e rm_Pr_sort s m args below meth c Q o_cls D A 5 2 [] (o_cw ad ca u2_rt u2_Sj u2_T0 u2_T1 u2_Rd u2_Pg u2_Pt u2_Mk u2_Lk u2_Ck u2_Jd u2_Ld q.2.2) [(0, .ref (ad 54)), (1, .int q.2.1)]) (h1 : q.1 ≠ 0 → (o_At p l e rm_Pr_sort s m args below meth c Q o_cls D A 5 131 [] (o_cw ad ca u2_rt u2_Sj u2_T0 u2_T1 u2_Rd u2_Pg u2_Pt u2_Mk u2_Lk u2_Ck u2_Jd u2_Ld q.2.2) [])) : o_At p l e rm_Pr_sort s m args below meth c Q o_cls D A 5 2 [] (o_cw ad ca u2_rt u2_Sj u2_T0 u2_T1 u2_Rd u2_Pg u2_Pt u2_Mk u2_Lk u2_Ck u2_Jd u2_Ld z.2) [(0, .ref (ad 54)), (1, .int z.1)] := by
  unfold m_Pr_sort_b2 at h
  intro H locs ls hP hS hl
  have C0 := C
  obtain ⟨hx, hb, -, -, -, hown, hts, hK, -, -⟩ := C0
  refine lv_iload_n hx hb d_Pr_sort_2 rfl (lv_at hl 1 rfl) ?_
  refine lv_aload_n hx hb d_Pr_sort_3 rfl (lv_at hl 0 rfl) ?_
  refine o_get (v := .int (Pr_size z.2)) C in_Pr hP 54 cw_54 rfl 2 (by decide) k_2_66 rfl rfl d_Pr_sort_4 ?_
  refine lv_icmp_ge (tgt := 131) hx hb d_Pr_sort_7 (by decide) (fun c1 => ?_) (fun c1 => ?_)
  · replace h := o_tt c1 h
    cases h
    exact h1 (Nat.succ_ne_zero 0) _ _ _ hP hS (lv_sub hl [] rfl)
  · replace h := o_ff c1 h
    refine lv_aload_n hx hb d_Pr_sort_10 rfl (lv_at hl 0 rfl) ?_
    refine o_get (v := .ref (ad 55)) C in_Pr hP 54 cw_54 rfl 0 (by decide) k_2_64 rfl rfl d_Pr_sort_11 ?_
    refine lv_iload_n hx hb d_Pr_sort_14 rfl (lv_at hl 1 rfl) ?_
    obtain ⟨g2, h⟩ := o_gd_some h
    refine o_iald (f := (Pr_values z.2)) C hP 55 43 cw_55 rfl g2 d_Pr_sort_15 ?_
    refine lv_topi (fun x2_16 ex2_16 => ?_)
    replace h := o_nm_at ex2_16 h
    refine lv_istore_n (lv' := [(2, .int x2_16), (0, .ref (ad 54)), (1, .int z.1)]) hx hb d_Pr_sort_16 rfl hl (by decide) rfl (fun ls hl => ?_)
    refine lv_aload_n hx hb d_Pr_sort_17 rfl (lv_at hl 1 rfl) ?_
    refine o_get (v := .ref (ad 56)) C in_Pr hP 54 cw_54 rfl 1 (by decide) k_2_65 rfl rfl d_Pr_sort_18 ?_
    refine lv_iload_n hx hb d_Pr_sort_21 rfl (lv_at hl 2 rfl) ?_
    obtain ⟨g3, h⟩ := o_gd_some h
    refine o_iald (f := (Pr_keywords z.2)) C hP 56 44 cw_56 rfl g3 d_Pr_sort_22 ?_
    refine lv_topi (fun x3_23 ex3_23 => ?_)
    replace h := o_nm_at ex3_23 h
    refine lv_istore_n (lv' := [(3, .int x3_23), (2, .int x2_16), (0, .ref (ad 54)), (1, .int z.1)]) hx hb d_Pr_sort_23 rfl hl (by decide) rfl (fun ls hl => ?_)
    refine lv_iload_n hx hb d_Pr_sort_24 rfl (lv_at hl 3 rfl) ?_
    refine lv_istore (lv' := [(4, .int z.1), (3, .int x3_23), (2, .int x2_16), (0, .ref (ad 54)), (1, .int z.1)]) hx hb d_Pr_sort_25 hl (by decide) rfl (fun ls hl => ?_)
    obtain ⟨q1, hq1, h⟩ := o_bd_some h
    refine o_sim2 (AH := fun zz => o_At p l e rm_Pr_sort s m args below meth c _ o_cls D A 5 27 [] (o_cw ad ca u2_rt u2_Sj u2_T0 u2_T1 u2_Rd u2_Pg u2_Pt u2_Mk u2_Lk u2_Ck u2_Jd u2_Ld zz.2) [(0, .ref (ad 54)), (1, .int z.1), (2, .int x2_16), (3, .int x3_23), (4, .int zz.1)]) (AX := fun qq => o_At p l e rm_Pr_sort s m args below meth c _ o_cls D A 5 109 [] (o_cw ad ca u2_rt u2_Sj u2_T0 u2_T1 u2_Rd u2_Pg u2_Pt u2_Mk u2_Lk u2_Ck u2_Jd u2_Ld qq.2.2) [(0, .ref (ad 54)), (1, .int z.1), (2, .int x2_16), (3, .int x3_23), (4, .int qq.2.1)]) (fun zz qq h h0 h1 => w_Pr_sort_b27 hE C hDD n z.1 x2_16 x3_23 u2_Sj u2_T0 u2_T1 u2_Rd u2_Pg u2_Pt u2_Mk u2_Lk u2_Ck u2_Jd u2_Ld u2_rt zz qq h h0 h1) n _ q1 hq1 ?_ _ _ _ hP hS (lv_sub hl [3, 4, 2, 1, 0] rfl)
    intro H locs ls hP hS hl
    exact w_Pr_sort_j109 hE C hDD n u2_Sj u2_T0 u2_T1 u2_Rd u2_Pg u2_Pt u2_Mk u2_Lk u2_Ck u2_Jd u2_Ld u2_rt z.1 x2_16 x3_23 q1.2.1 q1.2.2 h h0 h1 _ _ _ hP hS (lv_sub hl [0, 1, 2, 3, 4] rfl)
set_option maxHeartbeats 4000000 in
set_option maxRecDepth 100000 in
theorem c_Pr_sort {E : (Nat → Prop) → State → Heap → Prop} {D : va_G} {ad kd sd vd xd : Nat → Nat} {ca : Nat → ClassId} (hE : o_EK E kd sd vd xd) (l : Launch) (n : Nat)  (Pr : SPr) (Sj : SSJ) (T0 : STx) (T1 : STx) (Rd : SRd) (Pg : SPg) (Pt : SPt) (Mk : SMk) (Lk : SLk) (Ck : SCk) (Jd : SJd) (Ld : SLd) (rt : Nat) {r : SPr} (h : m_Pr_sort n Pr = some r) : o_Cn E l D o_cls (o_tys ca) y_Pr_sort cc_Pr_sort rm_Pr_sort [.ref (ad 54)] (o_cw ad ca rt Sj T0 T1 Rd Pg Pt Mk Lk Ck Jd Ld Pr) (o_cw ad ca rt Sj T0 T1 Rd Pg Pt Mk Lk Ck Jd Ld r) none := by
  refine o_Cn_of (by decide) (Nat.le_of_ble_eq_true rfl) ?_
  intro p e s m below meth c A ls C hD hP hS hl
  have hDD : ∀ (rt : Nat) (Sj : SSJ) (T0 : STx) (T1 : STx) (Rd : SRd) (Pg : SPg) (Pt : SPt) (Mk : SMk) (Lk : SLk) (Ck : SCk) (Jd : SJd) (Ld : SLd) (Pr : SPr), va_D A (o_cw ad ca rt Sj T0 T1 Rd Pg Pt Mk Lk Ck Jd Ld Pr) := fun _ _ _ _ _ _ _ _ _ _ _ _ _ => o_D_map hD rfl
  have hl : lv_has ls 5 [(0, .ref (ad 54))] := hl
  unfold m_Pr_sort at h
  have C0 := C
  obtain ⟨hx, hb, -, -, -, hown, hts, hK, -, -⟩ := C0
  refine lv_iconst (v := (1:Int32)) hx hb d_Pr_sort_0 (by decide) ?_
  refine lv_istore_n (lv' := [(1, .int (1:Int32)), (0, .ref (ad 54))]) hx hb d_Pr_sort_1 rfl hl (by decide) rfl (fun ls hl => ?_)
  obtain ⟨q2, hq2, h⟩ := o_bd_some h
  refine o_sim2 (AH := fun zz => o_At p l e rm_Pr_sort s m _ below meth c _ o_cls D A 5 2 [] (o_cw ad ca rt Sj T0 T1 Rd Pg Pt Mk Lk Ck Jd Ld zz.2) [(0, .ref (ad 54)), (1, .int zz.1)]) (AX := fun qq => o_At p l e rm_Pr_sort s m _ below meth c _ o_cls D A 5 131 [] (o_cw ad ca rt Sj T0 T1 Rd Pg Pt Mk Lk Ck Jd Ld qq.2.2) []) (fun zz qq h h0 h1 => w_Pr_sort_b2 hE C hDD n Sj T0 T1 Rd Pg Pt Mk Lk Ck Jd Ld rt zz qq h h0 h1) n _ q2 hq2 ?_ _ _ _ hP hS (lv_sub hl [1, 0] rfl)
  intro H locs ls hP hS hl
  cases h
  exact o_rv C hP hS d_Pr_sort_131
set_option maxHeartbeats 4000000 in
set_option maxRecDepth 100000 in
theorem w_Jd_finish_j15 {E : (Nat → Prop) → State → Heap → Prop} {p : Program} {l : Launch} {e : Env} {s : State} {m : MethodId} {args : Array Value} {below : List Frame} {meth : Method} {c : Code} {D : va_G} {ad kd sd vd xd : Nat → Nat} {ca : Nat → ClassId} {A : Nat → Prop} (hE : o_EK E kd sd vd xd) (C : o_Cx E p s m args meth c D o_cls (o_tys ca) "SchemaJudge$Judge" b_Jd_finish none 1 cc_Jd_finish A) (hDD : ∀ (rt : Nat) (Sj : SSJ) (T0 : STx) (T1 : STx) (Rd : SRd) (Pg : SPg) (Pt : SPt) (Mk : SMk) (Lk : SLk) (Ck : SCk) (Jd : SJd) (Ld : SLd) (Pr : SPr), va_D A (o_cw ad ca rt Sj T0 T1 Rd Pg Pt Mk Lk Ck Jd Ld Pr)) (n : Nat)  (Pr : SPr) (Jd : SJd) (Sj : SSJ) (T0 : STx) (T1 : STx) (Rd : SRd) (Pg : SPg) (Pt : SPt) (Mk : SMk) (Lk : SLk) (Ck : SCk) (Ld : SLd) (rt : Nat) {r : SPr} (h : m_Jd_finish_j15 n Pr Jd = some r) : o_At p l e rm_Jd_finish s m args below meth c (MQ below (o_Qx D o_cls none (o_cw ad ca rt Sj T0 T1 Rd Pg Pt Mk Lk Ck Jd Ld r) A) args s 0 0 A) o_cls D A 1 15 [] (o_cw ad ca rt Sj T0 T1 Rd Pg Pt Mk Lk Ck Jd Ld Pr) [(0, .ref (ad 49))] := by
  unfold m_Jd_finish_j15 at h
  intro H locs ls hP hS hl
  have C0 := C
  obtain ⟨hx, hb, -, -, -, hown, hts, hK, -, -⟩ := C0
  refine lv_aload_n hx hb d_Jd_finish_15 rfl (lv_at hl 0 rfl) ?_
  refine o_get (v := .ref (ad 54)) C in_Jd hP 49 cw_49 rfl 6 (by decide) k_2_80 rfl rfl d_Jd_finish_16 ?_
  obtain ⟨q1, hq1, h⟩ := o_bd_some h
  refine o_V (st1 := []) (w1 := (o_cw ad ca rt Sj T0 T1 Rd Pg Pt Mk Lk Ck Jd Ld q1)) hE.1 C (c_Pr_sort hE l n Pr Sj T0 T1 Rd Pg Pt Mk Lk Ck Jd Ld rt hq1) hP (hDD _ _ _ _ _ _ _ _ _ _ _ _ _) hS hl.1 rfl cw_54 k_6_234 k_6_235 k_6_236 k_1_11 k_6_237 hv_Pr_sort rfl rfl ⟨(Nat.le_of_ble_eq_true rfl), (Nat.le_of_ble_eq_true rfl)⟩ rfl (Nat.le_of_ble_eq_true rfl) ⟨Nat.zero_le _, Nat.zero_le _⟩ rfl d_Jd_finish_19 (fun H locs hP hS => ?_)
  cases h
  exact o_rv C hP hS d_Jd_finish_22
set_option maxHeartbeats 4000000 in
set_option maxRecDepth 100000 in
theorem c_Jd_finish {E : (Nat → Prop) → State → Heap → Prop} {D : va_G} {ad kd sd vd xd : Nat → Nat} {ca : Nat → ClassId} (hE : o_EK E kd sd vd xd) (l : Launch) (n : Nat)  (Pr : SPr) (Jd : SJd) (Sj : SSJ) (T0 : STx) (T1 : STx) (Rd : SRd) (Pg : SPg) (Pt : SPt) (Mk : SMk) (Lk : SLk) (Ck : SCk) (Ld : SLd) (rt : Nat) {r : SPr} (h : m_Jd_finish n Pr Jd = some r) : o_Cn E l D o_cls (o_tys ca) y_Jd_finish cc_Jd_finish rm_Jd_finish [.ref (ad 49)] (o_cw ad ca rt Sj T0 T1 Rd Pg Pt Mk Lk Ck Jd Ld Pr) (o_cw ad ca rt Sj T0 T1 Rd Pg Pt Mk Lk Ck Jd Ld r) none := by
  refine o_Cn_of (by decide) (Nat.le_of_ble_eq_true rfl) ?_
  intro p e s m below meth c A ls C hD hP hS hl
  have hDD : ∀ (rt : Nat) (Sj : SSJ) (T0 : STx) (T1 : STx) (Rd : SRd) (Pg : SPg) (Pt : SPt) (Mk : SMk) (Lk : SLk) (Ck : SCk) (Jd : SJd) (Ld : SLd) (Pr : SPr), va_D A (o_cw ad ca rt Sj T0 T1 Rd Pg Pt Mk Lk Ck Jd Ld Pr) := fun _ _ _ _ _ _ _ _ _ _ _ _ _ => o_D_map hD rfl
  have hl : lv_has ls 1 [(0, .ref (ad 49))] := hl
  unfold m_Jd_finish at h
  have C0 := C
  obtain ⟨hx, hb, -, -, -, hown, hts, hK, -, -⟩ := C0
  refine lv_aload_n hx hb d_Jd_finish_0 rfl (lv_at hl 0 rfl) ?_
  refine o_get (v := .int (Jd_over Jd)) C in_Jd hP 49 cw_49 rfl 9 (by decide) k_2_83 rfl rfl d_Jd_finish_1 ?_
  refine lv_if_eq (tgt := 15) hx hb d_Jd_finish_4 (by decide) (fun c1 => ?_) (fun c1 => ?_)
  · replace h := o_tt c1 h
    exact w_Jd_finish_j15 hE C hDD n Pr Jd Sj T0 T1 Rd Pg Pt Mk Lk Ck Ld rt h _ _ _ hP hS (lv_sub hl [0] rfl)
  · replace h := o_ff c1 h
    refine lv_aload_n hx hb d_Jd_finish_7 rfl (lv_at hl 0 rfl) ?_
    refine o_get (v := .ref (ad 54)) C in_Jd hP 49 cw_49 rfl 6 (by decide) k_2_80 rfl rfl d_Jd_finish_8 ?_
    refine lv_iconst (v := (0:Int32)) hx hb d_Jd_finish_11 (by decide) ?_
    obtain ⟨q2, hq2, h⟩ := o_bd_some h
    refine o_V (st1 := []) (w1 := (o_cw ad ca rt Sj T0 T1 Rd Pg Pt Mk Lk Ck Jd Ld q2)) hE.1 C (c_Pr_cut hE l (0:Int32) Pr Sj T0 T1 Rd Pg Pt Mk Lk Ck Jd Ld rt hq2) hP (hDD _ _ _ _ _ _ _ _ _ _ _ _ _) hS hl.1 rfl cw_54 k_6_3 k_6_4 k_6_5 k_1_11 k_6_6 hv_Pr_cut rfl rfl ⟨(Nat.le_of_ble_eq_true rfl), (Nat.le_of_ble_eq_true rfl)⟩ rfl (Nat.le_of_ble_eq_true rfl) ⟨Nat.zero_le _, Nat.zero_le _⟩ rfl d_Jd_finish_12 (fun H locs hP hS => ?_)
    exact w_Jd_finish_j15 hE C hDD n q2 Jd Sj T0 T1 Rd Pg Pt Mk Lk Ck Ld rt h _ _ _ hP hS (lv_sub hl [0] rfl)
set_option maxHeartbeats 4000000 in
set_option maxRecDepth 100000 in
theorem c_Jd_isOver {E : (Nat → Prop) → State → Heap → Prop} {D : va_G} {ad kd sd vd xd : Nat → Nat} {ca : Nat → ClassId} (hE : o_EK E kd sd vd xd) (l : Launch)  (Jd : SJd) (Sj : SSJ) (T0 : STx) (T1 : STx) (Rd : SRd) (Pg : SPg) (Pt : SPt) (Mk : SMk) (Lk : SLk) (Ck : SCk) (Ld : SLd) (Pr : SPr) (rt : Nat) {r : Int32} (h : m_Jd_isOver Jd = some r) : o_Cn E l D o_cls (o_tys ca) y_Jd_isOver cc_Jd_isOver rm_Jd_isOver [.ref (ad 49)] (o_cw ad ca rt Sj T0 T1 Rd Pg Pt Mk Lk Ck Jd Ld Pr) (o_cw ad ca rt Sj T0 T1 Rd Pg Pt Mk Lk Ck Jd Ld Pr) (some (.int r)) := by
  refine o_Cn_of (by decide) (Nat.le_of_ble_eq_true rfl) ?_
  intro p e s m below meth c A ls C hD hP hS hl
  have hDD : ∀ (rt : Nat) (Sj : SSJ) (T0 : STx) (T1 : STx) (Rd : SRd) (Pg : SPg) (Pt : SPt) (Mk : SMk) (Lk : SLk) (Ck : SCk) (Jd : SJd) (Ld : SLd) (Pr : SPr), va_D A (o_cw ad ca rt Sj T0 T1 Rd Pg Pt Mk Lk Ck Jd Ld Pr) := fun _ _ _ _ _ _ _ _ _ _ _ _ _ => o_D_map hD rfl
  have hl : lv_has ls 1 [(0, .ref (ad 49))] := hl
  unfold m_Jd_isOver at h
  have C0 := C
  obtain ⟨hx, hb, -, -, -, hown, hts, hK, -, -⟩ := C0
  refine lv_aload_n hx hb d_Jd_isOver_0 rfl (lv_at hl 0 rfl) ?_
  refine o_get (v := .int (Jd_over Jd)) C in_Jd hP 49 cw_49 rfl 9 (by decide) k_2_83 rfl rfl d_Jd_isOver_1 ?_
  obtain ⟨g1, h⟩ := o_gd_some h
  cases h
  exact o_rz (v := (Jd_over Jd)) C (o_zb_nar g1) hP hS d_Jd_isOver_4
set_option maxHeartbeats 4000000 in
set_option maxRecDepth 100000 in
theorem c_Jd_pairsKept {E : (Nat → Prop) → State → Heap → Prop} {D : va_G} {ad kd sd vd xd : Nat → Nat} {ca : Nat → ClassId} (hE : o_EK E kd sd vd xd) (l : Launch)  (Pr : SPr) (Sj : SSJ) (T0 : STx) (T1 : STx) (Rd : SRd) (Pg : SPg) (Pt : SPt) (Mk : SMk) (Lk : SLk) (Ck : SCk) (Jd : SJd) (Ld : SLd) (rt : Nat) {r : Int32} (h : m_Jd_pairsKept Pr = some r) : o_Cn E l D o_cls (o_tys ca) y_Jd_pairsKept cc_Jd_pairsKept rm_Jd_pairsKept [.ref (ad 49)] (o_cw ad ca rt Sj T0 T1 Rd Pg Pt Mk Lk Ck Jd Ld Pr) (o_cw ad ca rt Sj T0 T1 Rd Pg Pt Mk Lk Ck Jd Ld Pr) (some (.int r)) := by
  refine o_Cn_of (by decide) (Nat.le_of_ble_eq_true rfl) ?_
  intro p e s m below meth c A ls C hD hP hS hl
  have hDD : ∀ (rt : Nat) (Sj : SSJ) (T0 : STx) (T1 : STx) (Rd : SRd) (Pg : SPg) (Pt : SPt) (Mk : SMk) (Lk : SLk) (Ck : SCk) (Jd : SJd) (Ld : SLd) (Pr : SPr), va_D A (o_cw ad ca rt Sj T0 T1 Rd Pg Pt Mk Lk Ck Jd Ld Pr) := fun _ _ _ _ _ _ _ _ _ _ _ _ _ => o_D_map hD rfl
  have hl : lv_has ls 1 [(0, .ref (ad 49))] := hl
  unfold m_Jd_pairsKept at h
  have C0 := C
  obtain ⟨hx, hb, -, -, -, hown, hts, hK, -, -⟩ := C0
  refine lv_aload_n hx hb d_Jd_pairsKept_0 rfl (lv_at hl 0 rfl) ?_
  refine o_get (v := .ref (ad 54)) C in_Jd hP 49 cw_49 rfl 6 (by decide) k_2_80 rfl rfl d_Jd_pairsKept_1 ?_
  obtain ⟨q1, hq1, h⟩ := o_bd_some h
  refine o_V (st1 := [.int q1]) (w1 := (o_cw ad ca rt Sj T0 T1 Rd Pg Pt Mk Lk Ck Jd Ld Pr)) hE.1 C (c_Pr_size hE l Pr Sj T0 T1 Rd Pg Pt Mk Lk Ck Jd Ld rt hq1) hP (hDD _ _ _ _ _ _ _ _ _ _ _ _ _) hS hl.1 rfl cw_54 k_2_156 k_2_157 k_2_158 k_1_11 k_2_159 hv_Pr_size rfl rfl ⟨(Nat.le_of_ble_eq_true rfl), (Nat.le_of_ble_eq_true rfl)⟩ rfl (Nat.le_of_ble_eq_true rfl) ⟨Nat.zero_le _, Nat.zero_le _⟩ rfl d_Jd_pairsKept_4 (fun H locs hP hS => ?_)
  cases h
  exact o_ri C hP hS d_Jd_pairsKept_7
set_option maxHeartbeats 4000000 in
set_option maxRecDepth 100000 in
theorem c_Pr_at {E : (Nat → Prop) → State → Heap → Prop} {D : va_G} {ad kd sd vd xd : Nat → Nat} {ca : Nat → ClassId} (hE : o_EK E kd sd vd xd) (l : Launch) (x1 : Int32) (x2 : Int32) (Pr : SPr) (Sj : SSJ) (T0 : STx) (T1 : STx) (Rd : SRd) (Pg : SPg) (Pt : SPt) (Mk : SMk) (Lk : SLk) (Ck : SCk) (Jd : SJd) (Ld : SLd) (rt : Nat) {r : Int32} (h : m_Pr_at x1 x2 Pr = some r) : o_Cn E l D o_cls (o_tys ca) y_Pr_at cc_Pr_at rm_Pr_at [.ref (ad 54), .int x1, .int x2] (o_cw ad ca rt Sj T0 T1 Rd Pg Pt Mk Lk Ck Jd Ld Pr) (o_cw ad ca rt Sj T0 T1 Rd Pg Pt Mk Lk Ck Jd Ld Pr) (some (.int r)) := by
  refine o_Cn_of (by decide) (Nat.le_of_ble_eq_true rfl) ?_
  intro p e s m below meth c A ls C hD hP hS hl
  have hDD : ∀ (rt : Nat) (Sj : SSJ) (T0 : STx) (T1 : STx) (Rd : SRd) (Pg : SPg) (Pt : SPt) (Mk : SMk) (Lk : SLk) (Ck : SCk) (Jd : SJd) (Ld : SLd) (Pr : SPr), va_D A (o_cw ad ca rt Sj T0 T1 Rd Pg Pt Mk Lk Ck Jd Ld Pr) := fun _ _ _ _ _ _ _ _ _ _ _ _ _ => o_D_map hD rfl
  have hl : lv_has ls 3 [(0, .ref (ad 54)), (1, .int x1), (2, .int x2)] := hl
  unfold m_Pr_at at h
  have C0 := C
  obtain ⟨hx, hb, -, -, -, hown, hts, hK, -, -⟩ := C0
  refine lv_iload_n hx hb d_Pr_at_0 rfl (lv_at hl 1 rfl) ?_
  refine lv_if_lt (tgt := 12) hx hb d_Pr_at_1 (by decide) (fun c1 => ?_) (fun c1 => ?_)
  · replace h := o_tt c1 h
    refine lv_iconst (v := (-1:Int32)) hx hb d_Pr_at_12 (by decide) ?_
    cases h
    exact o_ri (v := (-1:Int32)) C hP hS d_Pr_at_13
  · replace h := o_ff c1 h
    refine lv_iload_n hx hb d_Pr_at_4 rfl (lv_at hl 1 rfl) ?_
    refine lv_aload_n hx hb d_Pr_at_5 rfl (lv_at hl 0 rfl) ?_
    refine o_get (v := .int (Pr_size Pr)) C in_Pr hP 54 cw_54 rfl 2 (by decide) k_2_66 rfl rfl d_Pr_at_6 ?_
    refine lv_icmp_lt (tgt := 14) hx hb d_Pr_at_9 (by decide) (fun c2 => ?_) (fun c2 => ?_)
    · replace h := o_tt c2 h
      refine lv_iload_n hx hb d_Pr_at_14 rfl (lv_at hl 2 rfl) ?_
      refine lv_if_eq (tgt := 27) hx hb d_Pr_at_15 (by decide) (fun c3 => ?_) (fun c3 => ?_)
      · replace h := o_tt c3 h
        refine lv_aload_n hx hb d_Pr_at_27 rfl (lv_at hl 0 rfl) ?_
        refine o_get (v := .ref (ad 55)) C in_Pr hP 54 cw_54 rfl 0 (by decide) k_2_64 rfl rfl d_Pr_at_28 ?_
        refine lv_iload_n hx hb d_Pr_at_31 rfl (lv_at hl 1 rfl) ?_
        obtain ⟨g4, h⟩ := o_gd_some h
        refine o_iald (f := (Pr_values Pr)) C hP 55 43 cw_55 rfl g4 d_Pr_at_32 ?_
        cases h
        exact o_ri (v := ((Pr_values Pr) x1.toNatClampNeg)) C hP hS d_Pr_at_33
      · replace h := o_ff c3 h
        refine lv_aload_n hx hb d_Pr_at_18 rfl (lv_at hl 0 rfl) ?_
        refine o_get (v := .ref (ad 56)) C in_Pr hP 54 cw_54 rfl 1 (by decide) k_2_65 rfl rfl d_Pr_at_19 ?_
        refine lv_iload_n hx hb d_Pr_at_22 rfl (lv_at hl 1 rfl) ?_
        obtain ⟨g5, h⟩ := o_gd_some h
        refine o_iald (f := (Pr_keywords Pr)) C hP 56 44 cw_56 rfl g5 d_Pr_at_23 ?_
        refine lv_goto (tgt := 33) hx hb d_Pr_at_24 (by decide) ?_
        cases h
        exact o_ri (v := ((Pr_keywords Pr) x1.toNatClampNeg)) C hP hS d_Pr_at_33
    · replace h := o_ff c2 h
      refine lv_iconst (v := (-1:Int32)) hx hb d_Pr_at_12 (by decide) ?_
      cases h
      exact o_ri (v := (-1:Int32)) C hP hS d_Pr_at_13
set_option maxHeartbeats 4000000 in
set_option maxRecDepth 100000 in
theorem c_Jd_pairAt {E : (Nat → Prop) → State → Heap → Prop} {D : va_G} {ad kd sd vd xd : Nat → Nat} {ca : Nat → ClassId} (hE : o_EK E kd sd vd xd) (l : Launch) (x1 : Int32) (x2 : Int32) (Pr : SPr) (Sj : SSJ) (T0 : STx) (T1 : STx) (Rd : SRd) (Pg : SPg) (Pt : SPt) (Mk : SMk) (Lk : SLk) (Ck : SCk) (Jd : SJd) (Ld : SLd) (rt : Nat) {r : Int32} (h : m_Jd_pairAt x1 x2 Pr = some r) : o_Cn E l D o_cls (o_tys ca) y_Jd_pairAt cc_Jd_pairAt rm_Jd_pairAt [.ref (ad 49), .int x1, .int x2] (o_cw ad ca rt Sj T0 T1 Rd Pg Pt Mk Lk Ck Jd Ld Pr) (o_cw ad ca rt Sj T0 T1 Rd Pg Pt Mk Lk Ck Jd Ld Pr) (some (.int r)) := by
  refine o_Cn_of (by decide) (Nat.le_of_ble_eq_true rfl) ?_
  intro p e s m below meth c A ls C hD hP hS hl
  have hDD : ∀ (rt : Nat) (Sj : SSJ) (T0 : STx) (T1 : STx) (Rd : SRd) (Pg : SPg) (Pt : SPt) (Mk : SMk) (Lk : SLk) (Ck : SCk) (Jd : SJd) (Ld : SLd) (Pr : SPr), va_D A (o_cw ad ca rt Sj T0 T1 Rd Pg Pt Mk Lk Ck Jd Ld Pr) := fun _ _ _ _ _ _ _ _ _ _ _ _ _ => o_D_map hD rfl
  have hl : lv_has ls 3 [(0, .ref (ad 49)), (1, .int x1), (2, .int x2)] := hl
  unfold m_Jd_pairAt at h
  have C0 := C
  obtain ⟨hx, hb, -, -, -, hown, hts, hK, -, -⟩ := C0
  refine lv_aload_n hx hb d_Jd_pairAt_0 rfl (lv_at hl 0 rfl) ?_
  refine o_get (v := .ref (ad 54)) C in_Jd hP 49 cw_49 rfl 6 (by decide) k_2_80 rfl rfl d_Jd_pairAt_1 ?_
  refine lv_iload_n hx hb d_Jd_pairAt_4 rfl (lv_at hl 1 rfl) ?_
  refine lv_iload_n hx hb d_Jd_pairAt_5 rfl (lv_at hl 2 rfl) ?_
  obtain ⟨q1, hq1, h⟩ := o_bd_some h
  refine o_V (st1 := [.int q1]) (w1 := (o_cw ad ca rt Sj T0 T1 Rd Pg Pt Mk Lk Ck Jd Ld Pr)) hE.1 C (c_Pr_at hE l x1 x2 Pr Sj T0 T1 Rd Pg Pt Mk Lk Ck Jd Ld rt hq1) hP (hDD _ _ _ _ _ _ _ _ _ _ _ _ _) hS hl.1 rfl cw_54 k_7_30 k_7_31 k_7_32 k_1_11 k_7_33 hv_Pr_at rfl rfl ⟨(Nat.le_of_ble_eq_true rfl), (Nat.le_of_ble_eq_true rfl)⟩ rfl (Nat.le_of_ble_eq_true rfl) ⟨Nat.zero_le _, Nat.zero_le _⟩ rfl d_Jd_pairAt_6 (fun H locs hP hS => ?_)
  cases h
  exact o_ri C hP hS d_Jd_pairAt_9
set_option maxHeartbeats 4000000 in
set_option maxRecDepth 100000 in
theorem c_Jd_evaluatedSchemas {E : (Nat → Prop) → State → Heap → Prop} {D : va_G} {ad kd sd vd xd : Nat → Nat} {ca : Nat → ClassId} (hE : o_EK E kd sd vd xd) (l : Launch)  (Jd : SJd) (Sj : SSJ) (T0 : STx) (T1 : STx) (Rd : SRd) (Pg : SPg) (Pt : SPt) (Mk : SMk) (Lk : SLk) (Ck : SCk) (Ld : SLd) (Pr : SPr) (rt : Nat) {r : Int32} (h : m_Jd_evaluatedSchemas Jd = some r) : o_Cn E l D o_cls (o_tys ca) y_Jd_evaluatedSchemas cc_Jd_evaluatedSchemas rm_Jd_evaluatedSchemas [.ref (ad 49)] (o_cw ad ca rt Sj T0 T1 Rd Pg Pt Mk Lk Ck Jd Ld Pr) (o_cw ad ca rt Sj T0 T1 Rd Pg Pt Mk Lk Ck Jd Ld Pr) (some (.int r)) := by
  refine o_Cn_of (by decide) (Nat.le_of_ble_eq_true rfl) ?_
  intro p e s m below meth c A ls C hD hP hS hl
  have hDD : ∀ (rt : Nat) (Sj : SSJ) (T0 : STx) (T1 : STx) (Rd : SRd) (Pg : SPg) (Pt : SPt) (Mk : SMk) (Lk : SLk) (Ck : SCk) (Jd : SJd) (Ld : SLd) (Pr : SPr), va_D A (o_cw ad ca rt Sj T0 T1 Rd Pg Pt Mk Lk Ck Jd Ld Pr) := fun _ _ _ _ _ _ _ _ _ _ _ _ _ => o_D_map hD rfl
  have hl : lv_has ls 1 [(0, .ref (ad 49))] := hl
  unfold m_Jd_evaluatedSchemas at h
  have C0 := C
  obtain ⟨hx, hb, -, -, -, hown, hts, hK, -, -⟩ := C0
  refine lv_aload_n hx hb d_Jd_evaluatedSchemas_0 rfl (lv_at hl 0 rfl) ?_
  refine o_get (v := .int (Jd_schemas Jd)) C in_Jd hP 49 cw_49 rfl 10 (by decide) k_2_84 rfl rfl d_Jd_evaluatedSchemas_1 ?_
  cases h
  exact o_ri (v := (Jd_schemas Jd)) C hP hS d_Jd_evaluatedSchemas_4
set_option maxHeartbeats 4000000 in
set_option maxRecDepth 100000 in
theorem c_Jd_deepest {E : (Nat → Prop) → State → Heap → Prop} {D : va_G} {ad kd sd vd xd : Nat → Nat} {ca : Nat → ClassId} (hE : o_EK E kd sd vd xd) (l : Launch)  (Jd : SJd) (Sj : SSJ) (T0 : STx) (T1 : STx) (Rd : SRd) (Pg : SPg) (Pt : SPt) (Mk : SMk) (Lk : SLk) (Ck : SCk) (Ld : SLd) (Pr : SPr) (rt : Nat) {r : Int32} (h : m_Jd_deepest Jd = some r) : o_Cn E l D o_cls (o_tys ca) y_Jd_deepest cc_Jd_deepest rm_Jd_deepest [.ref (ad 49)] (o_cw ad ca rt Sj T0 T1 Rd Pg Pt Mk Lk Ck Jd Ld Pr) (o_cw ad ca rt Sj T0 T1 Rd Pg Pt Mk Lk Ck Jd Ld Pr) (some (.int r)) := by
  refine o_Cn_of (by decide) (Nat.le_of_ble_eq_true rfl) ?_
  intro p e s m below meth c A ls C hD hP hS hl
  have hDD : ∀ (rt : Nat) (Sj : SSJ) (T0 : STx) (T1 : STx) (Rd : SRd) (Pg : SPg) (Pt : SPt) (Mk : SMk) (Lk : SLk) (Ck : SCk) (Jd : SJd) (Ld : SLd) (Pr : SPr), va_D A (o_cw ad ca rt Sj T0 T1 Rd Pg Pt Mk Lk Ck Jd Ld Pr) := fun _ _ _ _ _ _ _ _ _ _ _ _ _ => o_D_map hD rfl
  have hl : lv_has ls 1 [(0, .ref (ad 49))] := hl
  unfold m_Jd_deepest at h
  have C0 := C
  obtain ⟨hx, hb, -, -, -, hown, hts, hK, -, -⟩ := C0
  refine lv_aload_n hx hb d_Jd_deepest_0 rfl (lv_at hl 0 rfl) ?_
  refine o_get (v := .int (Jd_deepest Jd)) C in_Jd hP 49 cw_49 rfl 11 (by decide) k_2_85 rfl rfl d_Jd_deepest_1 ?_
  cases h
  exact o_ri (v := (Jd_deepest Jd)) C hP hS d_Jd_deepest_4
set_option maxHeartbeats 4000000 in
set_option maxRecDepth 100000 in
theorem c_Tx_clear_0 {E : (Nat → Prop) → State → Heap → Prop} {D : va_G} {ad kd sd vd xd : Nat → Nat} {ca : Nat → ClassId} (hE : o_EK E kd sd vd xd) (l : Launch)  (a0 : STx) (Sj : SSJ) (T1 : STx) (Rd : SRd) (Pg : SPg) (Pt : SPt) (Mk : SMk) (Lk : SLk) (Ck : SCk) (Jd : SJd) (Ld : SLd) (Pr : SPr) (rt : Nat) {r : STx} (h : m_Tx_clear a0 = some r) : o_Cn E l D o_cls (o_tys ca) y_Tx_clear cc_Tx_clear rm_Tx_clear [.ref (ad 1)] (o_cw ad ca rt Sj a0 T1 Rd Pg Pt Mk Lk Ck Jd Ld Pr) (o_cw ad ca rt Sj r T1 Rd Pg Pt Mk Lk Ck Jd Ld Pr) none := by
  refine o_Cn_of (by decide) (Nat.le_of_ble_eq_true rfl) ?_
  intro p e s m below meth c A ls C hD hP hS hl
  have hDD : ∀ (rt : Nat) (Sj : SSJ) (T0 : STx) (T1 : STx) (Rd : SRd) (Pg : SPg) (Pt : SPt) (Mk : SMk) (Lk : SLk) (Ck : SCk) (Jd : SJd) (Ld : SLd) (Pr : SPr), va_D A (o_cw ad ca rt Sj T0 T1 Rd Pg Pt Mk Lk Ck Jd Ld Pr) := fun _ _ _ _ _ _ _ _ _ _ _ _ _ => o_D_map hD rfl
  have hl : lv_has ls 1 [(0, .ref (ad 1))] := hl
  unfold m_Tx_clear at h
  have C0 := C
  obtain ⟨hx, hb, -, -, -, hown, hts, hK, -, -⟩ := C0
  refine lv_aload_n hx hb d_Tx_clear_0 rfl (lv_at hl 0 rfl) ?_
  refine lv_iconst (v := (0:Int32)) hx hb d_Tx_clear_1 (by decide) ?_
  refine o_put (v := .int (0:Int32)) (ty := .int) (w1 := (o_cw ad ca rt Sj (Tx_mk (Tx_kinds a0) (Tx_places a0) (Tx_sizes a0) (Tx_parents a0) (Tx_exponents a0) (Tx_starts a0) (Tx_afters a0) (Tx_slots a0) (Tx_negatives a0) (Tx_cells a0) (0:Int32) (Tx_used a0) (Tx_characters a0)) T1 Rd Pg Pt Mk Lk Ck Jd Ld Pr)) C in_Tx t_Tx t_Tx_ok n_Tx hP (hDD _ _ _ _ _ _ _ _ _ _ _ _ _) hS 1 cw_1 rfl 10 (by decide) k_1_56 rfl rfl (by decide +kernel) rfl rfl (Nat.le_of_ble_eq_true rfl) rfl d_Tx_clear_2 (fun H locs hP hS => ?_)
  refine lv_aload_n hx hb d_Tx_clear_5 rfl (lv_at hl 0 rfl) ?_
  refine lv_iconst (v := (0:Int32)) hx hb d_Tx_clear_6 (by decide) ?_
  refine o_put (v := .int (0:Int32)) (ty := .int) (w1 := (o_cw ad ca rt Sj (Tx_mk (Tx_kinds a0) (Tx_places a0) (Tx_sizes a0) (Tx_parents a0) (Tx_exponents a0) (Tx_starts a0) (Tx_afters a0) (Tx_slots a0) (Tx_negatives a0) (Tx_cells a0) (0:Int32) (0:Int32) (Tx_characters a0)) T1 Rd Pg Pt Mk Lk Ck Jd Ld Pr)) C in_Tx t_Tx t_Tx_ok n_Tx hP (hDD _ _ _ _ _ _ _ _ _ _ _ _ _) hS 1 cw_1 rfl 11 (by decide) k_1_57 rfl rfl (by decide +kernel) rfl rfl (Nat.le_of_ble_eq_true rfl) rfl d_Tx_clear_7 (fun H locs hP hS => ?_)
  refine lv_aload_n hx hb d_Tx_clear_10 rfl (lv_at hl 0 rfl) ?_
  refine lv_iconst (v := (0:Int32)) hx hb d_Tx_clear_11 (by decide) ?_
  refine o_put (v := .int (0:Int32)) (ty := .int) (w1 := (o_cw ad ca rt Sj (Tx_mk (Tx_kinds a0) (Tx_places a0) (Tx_sizes a0) (Tx_parents a0) (Tx_exponents a0) (Tx_starts a0) (Tx_afters a0) (Tx_slots a0) (Tx_negatives a0) (Tx_cells a0) (0:Int32) (0:Int32) (0:Int32)) T1 Rd Pg Pt Mk Lk Ck Jd Ld Pr)) C in_Tx t_Tx t_Tx_ok n_Tx hP (hDD _ _ _ _ _ _ _ _ _ _ _ _ _) hS 1 cw_1 rfl 12 (by decide) k_1_58 rfl rfl (by decide +kernel) rfl rfl (Nat.le_of_ble_eq_true rfl) rfl d_Tx_clear_12 (fun H locs hP hS => ?_)
  cases h
  exact o_rv C hP hS d_Tx_clear_15
set_option maxHeartbeats 4000000 in
set_option maxRecDepth 100000 in
theorem c_Tx_clear_1 {E : (Nat → Prop) → State → Heap → Prop} {D : va_G} {ad kd sd vd xd : Nat → Nat} {ca : Nat → ClassId} (hE : o_EK E kd sd vd xd) (l : Launch)  (a0 : STx) (Sj : SSJ) (T0 : STx) (Rd : SRd) (Pg : SPg) (Pt : SPt) (Mk : SMk) (Lk : SLk) (Ck : SCk) (Jd : SJd) (Ld : SLd) (Pr : SPr) (rt : Nat) {r : STx} (h : m_Tx_clear a0 = some r) : o_Cn E l D o_cls (o_tys ca) y_Tx_clear cc_Tx_clear rm_Tx_clear [.ref (ad 12)] (o_cw ad ca rt Sj T0 a0 Rd Pg Pt Mk Lk Ck Jd Ld Pr) (o_cw ad ca rt Sj T0 r Rd Pg Pt Mk Lk Ck Jd Ld Pr) none := by
  refine o_Cn_of (by decide) (Nat.le_of_ble_eq_true rfl) ?_
  intro p e s m below meth c A ls C hD hP hS hl
  have hDD : ∀ (rt : Nat) (Sj : SSJ) (T0 : STx) (T1 : STx) (Rd : SRd) (Pg : SPg) (Pt : SPt) (Mk : SMk) (Lk : SLk) (Ck : SCk) (Jd : SJd) (Ld : SLd) (Pr : SPr), va_D A (o_cw ad ca rt Sj T0 T1 Rd Pg Pt Mk Lk Ck Jd Ld Pr) := fun _ _ _ _ _ _ _ _ _ _ _ _ _ => o_D_map hD rfl
  have hl : lv_has ls 1 [(0, .ref (ad 12))] := hl
  unfold m_Tx_clear at h
  have C0 := C
  obtain ⟨hx, hb, -, -, -, hown, hts, hK, -, -⟩ := C0
  refine lv_aload_n hx hb d_Tx_clear_0 rfl (lv_at hl 0 rfl) ?_
  refine lv_iconst (v := (0:Int32)) hx hb d_Tx_clear_1 (by decide) ?_
  refine o_put (v := .int (0:Int32)) (ty := .int) (w1 := (o_cw ad ca rt Sj T0 (Tx_mk (Tx_kinds a0) (Tx_places a0) (Tx_sizes a0) (Tx_parents a0) (Tx_exponents a0) (Tx_starts a0) (Tx_afters a0) (Tx_slots a0) (Tx_negatives a0) (Tx_cells a0) (0:Int32) (Tx_used a0) (Tx_characters a0)) Rd Pg Pt Mk Lk Ck Jd Ld Pr)) C in_Tx t_Tx t_Tx_ok n_Tx hP (hDD _ _ _ _ _ _ _ _ _ _ _ _ _) hS 12 cw_12 rfl 10 (by decide) k_1_56 rfl rfl (by decide +kernel) rfl rfl (Nat.le_of_ble_eq_true rfl) rfl d_Tx_clear_2 (fun H locs hP hS => ?_)
  refine lv_aload_n hx hb d_Tx_clear_5 rfl (lv_at hl 0 rfl) ?_
  refine lv_iconst (v := (0:Int32)) hx hb d_Tx_clear_6 (by decide) ?_
  refine o_put (v := .int (0:Int32)) (ty := .int) (w1 := (o_cw ad ca rt Sj T0 (Tx_mk (Tx_kinds a0) (Tx_places a0) (Tx_sizes a0) (Tx_parents a0) (Tx_exponents a0) (Tx_starts a0) (Tx_afters a0) (Tx_slots a0) (Tx_negatives a0) (Tx_cells a0) (0:Int32) (0:Int32) (Tx_characters a0)) Rd Pg Pt Mk Lk Ck Jd Ld Pr)) C in_Tx t_Tx t_Tx_ok n_Tx hP (hDD _ _ _ _ _ _ _ _ _ _ _ _ _) hS 12 cw_12 rfl 11 (by decide) k_1_57 rfl rfl (by decide +kernel) rfl rfl (Nat.le_of_ble_eq_true rfl) rfl d_Tx_clear_7 (fun H locs hP hS => ?_)
  refine lv_aload_n hx hb d_Tx_clear_10 rfl (lv_at hl 0 rfl) ?_
  refine lv_iconst (v := (0:Int32)) hx hb d_Tx_clear_11 (by decide) ?_
  refine o_put (v := .int (0:Int32)) (ty := .int) (w1 := (o_cw ad ca rt Sj T0 (Tx_mk (Tx_kinds a0) (Tx_places a0) (Tx_sizes a0) (Tx_parents a0) (Tx_exponents a0) (Tx_starts a0) (Tx_afters a0) (Tx_slots a0) (Tx_negatives a0) (Tx_cells a0) (0:Int32) (0:Int32) (0:Int32)) Rd Pg Pt Mk Lk Ck Jd Ld Pr)) C in_Tx t_Tx t_Tx_ok n_Tx hP (hDD _ _ _ _ _ _ _ _ _ _ _ _ _) hS 12 cw_12 rfl 12 (by decide) k_1_58 rfl rfl (by decide +kernel) rfl rfl (Nat.le_of_ble_eq_true rfl) rfl d_Tx_clear_12 (fun H locs hP hS => ?_)
  cases h
  exact o_rv C hP hS d_Tx_clear_15
set_option maxHeartbeats 4000000 in
set_option maxRecDepth 100000 in
theorem c_Tx_begin_0 {E : (Nat → Prop) → State → Heap → Prop} {D : va_G} {ad kd sd vd xd : Nat → Nat} {ca : Nat → ClassId} (hE : o_EK E kd sd vd xd) (l : Launch) (x1 : Int32) (x2 : Int32) (x3 : Int32) (x4 : Int32) (a0 : STx) (Sj : SSJ) (T1 : STx) (Rd : SRd) (Pg : SPg) (Pt : SPt) (Mk : SMk) (Lk : SLk) (Ck : SCk) (Jd : SJd) (Ld : SLd) (Pr : SPr) (rt : Nat) {r : Int32 × STx} (h : m_Tx_begin x1 x2 x3 x4 a0 = some r) : o_Cn E l D o_cls (o_tys ca) y_Tx_begin cc_Tx_begin rm_Tx_begin [.ref (ad 1), .int x1, .int x2, .int x3, .int x4] (o_cw ad ca rt Sj a0 T1 Rd Pg Pt Mk Lk Ck Jd Ld Pr) (o_cw ad ca rt Sj r.2 T1 Rd Pg Pt Mk Lk Ck Jd Ld Pr) (some (.int r.1)) := by
  refine o_Cn_of (by decide) (Nat.le_of_ble_eq_true rfl) ?_
  intro p e s m below meth c A ls C hD hP hS hl
  have hDD : ∀ (rt : Nat) (Sj : SSJ) (T0 : STx) (T1 : STx) (Rd : SRd) (Pg : SPg) (Pt : SPt) (Mk : SMk) (Lk : SLk) (Ck : SCk) (Jd : SJd) (Ld : SLd) (Pr : SPr), va_D A (o_cw ad ca rt Sj T0 T1 Rd Pg Pt Mk Lk Ck Jd Ld Pr) := fun _ _ _ _ _ _ _ _ _ _ _ _ _ => o_D_map hD rfl
  have hl : lv_has ls 6 [(0, .ref (ad 1)), (1, .int x1), (2, .int x2), (3, .int x3), (4, .int x4)] := hl
  unfold m_Tx_begin at h
  have C0 := C
  obtain ⟨hx, hb, -, -, -, hown, hts, hK, -, -⟩ := C0
  refine lv_aload_n hx hb d_Tx_begin_0 rfl (lv_at hl 0 rfl) ?_
  refine o_get (v := .int (Tx_total a0)) C in_Tx hP 1 cw_1 rfl 10 (by decide) k_1_56 rfl rfl d_Tx_begin_1 ?_
  refine lv_sipush (v := (1000:Int32)) hx hb d_Tx_begin_4 (by decide) ?_
  refine lv_icmp_lt (tgt := 12) hx hb d_Tx_begin_7 (by decide) (fun c1 => ?_) (fun c1 => ?_)
  · replace h := o_tt c1 h
    refine lv_aload_n hx hb d_Tx_begin_12 rfl (lv_at hl 0 rfl) ?_
    refine o_get (v := .int (Tx_total a0)) C in_Tx hP 1 cw_1 rfl 10 (by decide) k_1_56 rfl rfl d_Tx_begin_13 ?_
    refine lv_topi (fun x5_16 ex5_16 => ?_)
    replace h := o_nm_at ex5_16 h
    refine lv_istore (lv' := [(5, .int x5_16), (0, .ref (ad 1)), (1, .int x1), (2, .int x2), (3, .int x3), (4, .int x4)]) hx hb d_Tx_begin_16 hl (by decide) rfl (fun ls hl => ?_)
    refine lv_aload_n hx hb d_Tx_begin_18 rfl (lv_at hl 1 rfl) ?_
    refine lv_dup hx hb d_Tx_begin_19 rfl ?_
    refine o_get (v := .int (Tx_total a0)) C in_Tx hP 1 cw_1 rfl 10 (by decide) k_1_56 rfl rfl d_Tx_begin_20 ?_
    refine lv_iconst (v := (1:Int32)) hx hb d_Tx_begin_23 (by decide) ?_
    refine lv_iadd hx hb d_Tx_begin_24 ?_
    refine o_put (v := .int ((Tx_total a0) + (1:Int32))) (ty := .int) (w1 := (o_cw ad ca rt Sj (Tx_mk (Tx_kinds a0) (Tx_places a0) (Tx_sizes a0) (Tx_parents a0) (Tx_exponents a0) (Tx_starts a0) (Tx_afters a0) (Tx_slots a0) (Tx_negatives a0) (Tx_cells a0) ((Tx_total a0) + (1:Int32)) (Tx_used a0) (Tx_characters a0)) T1 Rd Pg Pt Mk Lk Ck Jd Ld Pr)) C in_Tx t_Tx t_Tx_ok n_Tx hP (hDD _ _ _ _ _ _ _ _ _ _ _ _ _) hS 1 cw_1 rfl 10 (by decide) k_1_56 rfl rfl (by decide +kernel) rfl rfl (Nat.le_of_ble_eq_true rfl) rfl d_Tx_begin_25 (fun H locs hP hS => ?_)
    refine lv_aload_n hx hb d_Tx_begin_28 rfl (lv_at hl 1 rfl) ?_
    refine o_get (v := .ref (ad 2)) C in_Tx hP 1 cw_1 rfl 0 (by decide) k_1_46 rfl rfl d_Tx_begin_29 ?_
    refine lv_iload hx hb d_Tx_begin_32 (lv_at hl 0 rfl) ?_
    refine lv_iload_n hx hb d_Tx_begin_34 rfl (lv_at hl 2 rfl) ?_
    obtain ⟨g2, h⟩ := o_gd_some h
    refine o_iast (f := (Tx_kinds a0)) (w1 := (o_cw ad ca rt Sj (Tx_mk (upd (Tx_kinds a0) x5_16.toNatClampNeg x1) (Tx_places a0) (Tx_sizes a0) (Tx_parents a0) (Tx_exponents a0) (Tx_starts a0) (Tx_afters a0) (Tx_slots a0) (Tx_negatives a0) (Tx_cells a0) ((Tx_total a0) + (1:Int32)) (Tx_used a0) (Tx_characters a0)) T1 Rd Pg Pt Mk Lk Ck Jd Ld Pr)) C hP (hDD _ _ _ _ _ _ _ _ _ _ _ _ _) hS 2 0 cw_2 rfl g2 rfl d_Tx_begin_35 (fun H locs hP hS => ?_)
    refine lv_aload_n hx hb d_Tx_begin_36 rfl (lv_at hl 1 rfl) ?_
    refine o_get (v := .ref (ad 3)) C in_Tx hP 1 cw_1 rfl 1 (by decide) k_1_47 rfl rfl d_Tx_begin_37 ?_
    refine lv_iload hx hb d_Tx_begin_40 (lv_at hl 0 rfl) ?_
    refine lv_iload_n hx hb d_Tx_begin_42 rfl (lv_at hl 3 rfl) ?_
    obtain ⟨g3, h⟩ := o_gd_some h
    refine o_iast (f := (Tx_places a0)) (w1 := (o_cw ad ca rt Sj (Tx_mk (upd (Tx_kinds a0) x5_16.toNatClampNeg x1) (upd (Tx_places a0) x5_16.toNatClampNeg x2) (Tx_sizes a0) (Tx_parents a0) (Tx_exponents a0) (Tx_starts a0) (Tx_afters a0) (Tx_slots a0) (Tx_negatives a0) (Tx_cells a0) ((Tx_total a0) + (1:Int32)) (Tx_used a0) (Tx_characters a0)) T1 Rd Pg Pt Mk Lk Ck Jd Ld Pr)) C hP (hDD _ _ _ _ _ _ _ _ _ _ _ _ _) hS 3 1 cw_3 rfl g3 rfl d_Tx_begin_43 (fun H locs hP hS => ?_)
    refine lv_aload_n hx hb d_Tx_begin_44 rfl (lv_at hl 1 rfl) ?_
    refine o_get (v := .ref (ad 4)) C in_Tx hP 1 cw_1 rfl 2 (by decide) k_1_48 rfl rfl d_Tx_begin_45 ?_
    refine lv_iload hx hb d_Tx_begin_48 (lv_at hl 0 rfl) ?_
    refine lv_iconst (v := (0:Int32)) hx hb d_Tx_begin_50 (by decide) ?_
    obtain ⟨g4, h⟩ := o_gd_some h
    refine o_iast (f := (Tx_sizes a0)) (w1 := (o_cw ad ca rt Sj (Tx_mk (upd (Tx_kinds a0) x5_16.toNatClampNeg x1) (upd (Tx_places a0) x5_16.toNatClampNeg x2) (upd (Tx_sizes a0) x5_16.toNatClampNeg (0:Int32)) (Tx_parents a0) (Tx_exponents a0) (Tx_starts a0) (Tx_afters a0) (Tx_slots a0) (Tx_negatives a0) (Tx_cells a0) ((Tx_total a0) + (1:Int32)) (Tx_used a0) (Tx_characters a0)) T1 Rd Pg Pt Mk Lk Ck Jd Ld Pr)) C hP (hDD _ _ _ _ _ _ _ _ _ _ _ _ _) hS 4 2 cw_4 rfl g4 rfl d_Tx_begin_51 (fun H locs hP hS => ?_)
    refine lv_aload_n hx hb d_Tx_begin_52 rfl (lv_at hl 1 rfl) ?_
    refine o_get (v := .ref (ad 5)) C in_Tx hP 1 cw_1 rfl 3 (by decide) k_1_49 rfl rfl d_Tx_begin_53 ?_
    refine lv_iload hx hb d_Tx_begin_56 (lv_at hl 0 rfl) ?_
    refine lv_iload_n hx hb d_Tx_begin_58 rfl (lv_at hl 4 rfl) ?_
    obtain ⟨g5, h⟩ := o_gd_some h
    refine o_iast (f := (Tx_parents a0)) (w1 := (o_cw ad ca rt Sj (Tx_mk (upd (Tx_kinds a0) x5_16.toNatClampNeg x1) (upd (Tx_places a0) x5_16.toNatClampNeg x2) (upd (Tx_sizes a0) x5_16.toNatClampNeg (0:Int32)) (upd (Tx_parents a0) x5_16.toNatClampNeg x3) (Tx_exponents a0) (Tx_starts a0) (Tx_afters a0) (Tx_slots a0) (Tx_negatives a0) (Tx_cells a0) ((Tx_total a0) + (1:Int32)) (Tx_used a0) (Tx_characters a0)) T1 Rd Pg Pt Mk Lk Ck Jd Ld Pr)) C hP (hDD _ _ _ _ _ _ _ _ _ _ _ _ _) hS 5 3 cw_5 rfl g5 rfl d_Tx_begin_59 (fun H locs hP hS => ?_)
    refine lv_aload_n hx hb d_Tx_begin_60 rfl (lv_at hl 1 rfl) ?_
    refine o_get (v := .ref (ad 6)) C in_Tx hP 1 cw_1 rfl 4 (by decide) k_1_50 rfl rfl d_Tx_begin_61 ?_
    refine lv_iload hx hb d_Tx_begin_64 (lv_at hl 0 rfl) ?_
    refine lv_iconst (v := (0:Int32)) hx hb d_Tx_begin_66 (by decide) ?_
    obtain ⟨g6, h⟩ := o_gd_some h
    refine o_iast (f := (Tx_exponents a0)) (w1 := (o_cw ad ca rt Sj (Tx_mk (upd (Tx_kinds a0) x5_16.toNatClampNeg x1) (upd (Tx_places a0) x5_16.toNatClampNeg x2) (upd (Tx_sizes a0) x5_16.toNatClampNeg (0:Int32)) (upd (Tx_parents a0) x5_16.toNatClampNeg x3) (upd (Tx_exponents a0) x5_16.toNatClampNeg (0:Int32)) (Tx_starts a0) (Tx_afters a0) (Tx_slots a0) (Tx_negatives a0) (Tx_cells a0) ((Tx_total a0) + (1:Int32)) (Tx_used a0) (Tx_characters a0)) T1 Rd Pg Pt Mk Lk Ck Jd Ld Pr)) C hP (hDD _ _ _ _ _ _ _ _ _ _ _ _ _) hS 6 4 cw_6 rfl g6 rfl d_Tx_begin_67 (fun H locs hP hS => ?_)
    refine lv_aload_n hx hb d_Tx_begin_68 rfl (lv_at hl 1 rfl) ?_
    refine o_get (v := .ref (ad 7)) C in_Tx hP 1 cw_1 rfl 5 (by decide) k_1_51 rfl rfl d_Tx_begin_69 ?_
    refine lv_iload hx hb d_Tx_begin_72 (lv_at hl 0 rfl) ?_
    refine lv_aload_n hx hb d_Tx_begin_74 rfl (lv_at hl 1 rfl) ?_
    refine o_get (v := .int (Tx_used a0)) C in_Tx hP 1 cw_1 rfl 11 (by decide) k_1_57 rfl rfl d_Tx_begin_75 ?_
    obtain ⟨g7, h⟩ := o_gd_some h
    refine o_iast (f := (Tx_starts a0)) (w1 := (o_cw ad ca rt Sj (Tx_mk (upd (Tx_kinds a0) x5_16.toNatClampNeg x1) (upd (Tx_places a0) x5_16.toNatClampNeg x2) (upd (Tx_sizes a0) x5_16.toNatClampNeg (0:Int32)) (upd (Tx_parents a0) x5_16.toNatClampNeg x3) (upd (Tx_exponents a0) x5_16.toNatClampNeg (0:Int32)) (upd (Tx_starts a0) x5_16.toNatClampNeg (Tx_used a0)) (Tx_afters a0) (Tx_slots a0) (Tx_negatives a0) (Tx_cells a0) ((Tx_total a0) + (1:Int32)) (Tx_used a0) (Tx_characters a0)) T1 Rd Pg Pt Mk Lk Ck Jd Ld Pr)) C hP (hDD _ _ _ _ _ _ _ _ _ _ _ _ _) hS 7 5 cw_7 rfl g7 rfl d_Tx_begin_78 (fun H locs hP hS => ?_)
    refine lv_aload_n hx hb d_Tx_begin_79 rfl (lv_at hl 1 rfl) ?_
    refine o_get (v := .ref (ad 8)) C in_Tx hP 1 cw_1 rfl 6 (by decide) k_1_52 rfl rfl d_Tx_begin_80 ?_
    refine lv_iload hx hb d_Tx_begin_83 (lv_at hl 0 rfl) ?_
    refine lv_aload_n hx hb d_Tx_begin_85 rfl (lv_at hl 1 rfl) ?_
    refine o_get (v := .int ((Tx_total a0) + (1:Int32))) C in_Tx hP 1 cw_1 rfl 10 (by decide) k_1_56 rfl rfl d_Tx_begin_86 ?_
    obtain ⟨g8, h⟩ := o_gd_some h
    refine o_iast (f := (Tx_afters a0)) (w1 := (o_cw ad ca rt Sj (Tx_mk (upd (Tx_kinds a0) x5_16.toNatClampNeg x1) (upd (Tx_places a0) x5_16.toNatClampNeg x2) (upd (Tx_sizes a0) x5_16.toNatClampNeg (0:Int32)) (upd (Tx_parents a0) x5_16.toNatClampNeg x3) (upd (Tx_exponents a0) x5_16.toNatClampNeg (0:Int32)) (upd (Tx_starts a0) x5_16.toNatClampNeg (Tx_used a0)) (upd (Tx_afters a0) x5_16.toNatClampNeg ((Tx_total a0) + (1:Int32))) (Tx_slots a0) (Tx_negatives a0) (Tx_cells a0) ((Tx_total a0) + (1:Int32)) (Tx_used a0) (Tx_characters a0)) T1 Rd Pg Pt Mk Lk Ck Jd Ld Pr)) C hP (hDD _ _ _ _ _ _ _ _ _ _ _ _ _) hS 8 6 cw_8 rfl g8 rfl d_Tx_begin_89 (fun H locs hP hS => ?_)
    refine lv_aload_n hx hb d_Tx_begin_90 rfl (lv_at hl 1 rfl) ?_
    refine o_get (v := .ref (ad 9)) C in_Tx hP 1 cw_1 rfl 7 (by decide) k_1_53 rfl rfl d_Tx_begin_91 ?_
    refine lv_iload hx hb d_Tx_begin_94 (lv_at hl 0 rfl) ?_
    refine lv_iload hx hb d_Tx_begin_96 (lv_at hl 5 rfl) ?_
    obtain ⟨g9, h⟩ := o_gd_some h
    refine o_iast (f := (Tx_slots a0)) (w1 := (o_cw ad ca rt Sj (Tx_mk (upd (Tx_kinds a0) x5_16.toNatClampNeg x1) (upd (Tx_places a0) x5_16.toNatClampNeg x2) (upd (Tx_sizes a0) x5_16.toNatClampNeg (0:Int32)) (upd (Tx_parents a0) x5_16.toNatClampNeg x3) (upd (Tx_exponents a0) x5_16.toNatClampNeg (0:Int32)) (upd (Tx_starts a0) x5_16.toNatClampNeg (Tx_used a0)) (upd (Tx_afters a0) x5_16.toNatClampNeg ((Tx_total a0) + (1:Int32))) (upd (Tx_slots a0) x5_16.toNatClampNeg x4) (Tx_negatives a0) (Tx_cells a0) ((Tx_total a0) + (1:Int32)) (Tx_used a0) (Tx_characters a0)) T1 Rd Pg Pt Mk Lk Ck Jd Ld Pr)) C hP (hDD _ _ _ _ _ _ _ _ _ _ _ _ _) hS 9 7 cw_9 rfl g9 rfl d_Tx_begin_98 (fun H locs hP hS => ?_)
    refine lv_aload_n hx hb d_Tx_begin_99 rfl (lv_at hl 1 rfl) ?_
    refine o_get (v := .ref (ad 10)) C in_Tx hP 1 cw_1 rfl 8 (by decide) k_1_54 rfl rfl d_Tx_begin_100 ?_
    refine lv_iload hx hb d_Tx_begin_103 (lv_at hl 0 rfl) ?_
    refine lv_iconst (v := (0:Int32)) hx hb d_Tx_begin_105 (by decide) ?_
    obtain ⟨g10, h⟩ := o_gd_some h
    refine o_zast (f := (Tx_negatives a0)) (w1 := (o_cw ad ca rt Sj (Tx_mk (upd (Tx_kinds a0) x5_16.toNatClampNeg x1) (upd (Tx_places a0) x5_16.toNatClampNeg x2) (upd (Tx_sizes a0) x5_16.toNatClampNeg (0:Int32)) (upd (Tx_parents a0) x5_16.toNatClampNeg x3) (upd (Tx_exponents a0) x5_16.toNatClampNeg (0:Int32)) (upd (Tx_starts a0) x5_16.toNatClampNeg (Tx_used a0)) (upd (Tx_afters a0) x5_16.toNatClampNeg ((Tx_total a0) + (1:Int32))) (upd (Tx_slots a0) x5_16.toNatClampNeg x4) (upd (Tx_negatives a0) x5_16.toNatClampNeg (vp_nar .boolean (0:Int32))) (Tx_cells a0) ((Tx_total a0) + (1:Int32)) (Tx_used a0) (Tx_characters a0)) T1 Rd Pg Pt Mk Lk Ck Jd Ld Pr)) C hP (hDD _ _ _ _ _ _ _ _ _ _ _ _ _) hS 10 8 cw_10 rfl g10 rfl d_Tx_begin_106 (fun H locs hP hS => ?_)
    refine lv_iload hx hb d_Tx_begin_107 (lv_at hl 0 rfl) ?_
    cases h
    exact o_ri C hP hS d_Tx_begin_109
  · replace h := o_ff c1 h
    refine lv_iconst (v := (-1:Int32)) hx hb d_Tx_begin_10 (by decide) ?_
    cases h
    exact o_ri (v := (-1:Int32)) C hP hS d_Tx_begin_11
set_option maxHeartbeats 4000000 in
set_option maxRecDepth 100000 in
theorem c_Tx_begin_1 {E : (Nat → Prop) → State → Heap → Prop} {D : va_G} {ad kd sd vd xd : Nat → Nat} {ca : Nat → ClassId} (hE : o_EK E kd sd vd xd) (l : Launch) (x1 : Int32) (x2 : Int32) (x3 : Int32) (x4 : Int32) (a0 : STx) (Sj : SSJ) (T0 : STx) (Rd : SRd) (Pg : SPg) (Pt : SPt) (Mk : SMk) (Lk : SLk) (Ck : SCk) (Jd : SJd) (Ld : SLd) (Pr : SPr) (rt : Nat) {r : Int32 × STx} (h : m_Tx_begin x1 x2 x3 x4 a0 = some r) : o_Cn E l D o_cls (o_tys ca) y_Tx_begin cc_Tx_begin rm_Tx_begin [.ref (ad 12), .int x1, .int x2, .int x3, .int x4] (o_cw ad ca rt Sj T0 a0 Rd Pg Pt Mk Lk Ck Jd Ld Pr) (o_cw ad ca rt Sj T0 r.2 Rd Pg Pt Mk Lk Ck Jd Ld Pr) (some (.int r.1)) := by
  refine o_Cn_of (by decide) (Nat.le_of_ble_eq_true rfl) ?_
  intro p e s m below meth c A ls C hD hP hS hl
  have hDD : ∀ (rt : Nat) (Sj : SSJ) (T0 : STx) (T1 : STx) (Rd : SRd) (Pg : SPg) (Pt : SPt) (Mk : SMk) (Lk : SLk) (Ck : SCk) (Jd : SJd) (Ld : SLd) (Pr : SPr), va_D A (o_cw ad ca rt Sj T0 T1 Rd Pg Pt Mk Lk Ck Jd Ld Pr) := fun _ _ _ _ _ _ _ _ _ _ _ _ _ => o_D_map hD rfl
  have hl : lv_has ls 6 [(0, .ref (ad 12)), (1, .int x1), (2, .int x2), (3, .int x3), (4, .int x4)] := hl
  unfold m_Tx_begin at h
  have C0 := C
  obtain ⟨hx, hb, -, -, -, hown, hts, hK, -, -⟩ := C0
  refine lv_aload_n hx hb d_Tx_begin_0 rfl (lv_at hl 0 rfl) ?_
  refine o_get (v := .int (Tx_total a0)) C in_Tx hP 12 cw_12 rfl 10 (by decide) k_1_56 rfl rfl d_Tx_begin_1 ?_
  refine lv_sipush (v := (1000:Int32)) hx hb d_Tx_begin_4 (by decide) ?_
  refine lv_icmp_lt (tgt := 12) hx hb d_Tx_begin_7 (by decide) (fun c1 => ?_) (fun c1 => ?_)
  · replace h := o_tt c1 h
    refine lv_aload_n hx hb d_Tx_begin_12 rfl (lv_at hl 0 rfl) ?_
    refine o_get (v := .int (Tx_total a0)) C in_Tx hP 12 cw_12 rfl 10 (by decide) k_1_56 rfl rfl d_Tx_begin_13 ?_
    refine lv_topi (fun x5_16 ex5_16 => ?_)
    replace h := o_nm_at ex5_16 h
    refine lv_istore (lv' := [(5, .int x5_16), (0, .ref (ad 12)), (1, .int x1), (2, .int x2), (3, .int x3), (4, .int x4)]) hx hb d_Tx_begin_16 hl (by decide) rfl (fun ls hl => ?_)
    refine lv_aload_n hx hb d_Tx_begin_18 rfl (lv_at hl 1 rfl) ?_
    refine lv_dup hx hb d_Tx_begin_19 rfl ?_
    refine o_get (v := .int (Tx_total a0)) C in_Tx hP 12 cw_12 rfl 10 (by decide) k_1_56 rfl rfl d_Tx_begin_20 ?_
    refine lv_iconst (v := (1:Int32)) hx hb d_Tx_begin_23 (by decide) ?_
    refine lv_iadd hx hb d_Tx_begin_24 ?_
    refine o_put (v := .int ((Tx_total a0) + (1:Int32))) (ty := .int) (w1 := (o_cw ad ca rt Sj T0 (Tx_mk (Tx_kinds a0) (Tx_places a0) (Tx_sizes a0) (Tx_parents a0) (Tx_exponents a0) (Tx_starts a0) (Tx_afters a0) (Tx_slots a0) (Tx_negatives a0) (Tx_cells a0) ((Tx_total a0) + (1:Int32)) (Tx_used a0) (Tx_characters a0)) Rd Pg Pt Mk Lk Ck Jd Ld Pr)) C in_Tx t_Tx t_Tx_ok n_Tx hP (hDD _ _ _ _ _ _ _ _ _ _ _ _ _) hS 12 cw_12 rfl 10 (by decide) k_1_56 rfl rfl (by decide +kernel) rfl rfl (Nat.le_of_ble_eq_true rfl) rfl d_Tx_begin_25 (fun H locs hP hS => ?_)
    refine lv_aload_n hx hb d_Tx_begin_28 rfl (lv_at hl 1 rfl) ?_
    refine o_get (v := .ref (ad 13)) C in_Tx hP 12 cw_12 rfl 0 (by decide) k_1_46 rfl rfl d_Tx_begin_29 ?_
    refine lv_iload hx hb d_Tx_begin_32 (lv_at hl 0 rfl) ?_
    refine lv_iload_n hx hb d_Tx_begin_34 rfl (lv_at hl 2 rfl) ?_
    obtain ⟨g2, h⟩ := o_gd_some h
    refine o_iast (f := (Tx_kinds a0)) (w1 := (o_cw ad ca rt Sj T0 (Tx_mk (upd (Tx_kinds a0) x5_16.toNatClampNeg x1) (Tx_places a0) (Tx_sizes a0) (Tx_parents a0) (Tx_exponents a0) (Tx_starts a0) (Tx_afters a0) (Tx_slots a0) (Tx_negatives a0) (Tx_cells a0) ((Tx_total a0) + (1:Int32)) (Tx_used a0) (Tx_characters a0)) Rd Pg Pt Mk Lk Ck Jd Ld Pr)) C hP (hDD _ _ _ _ _ _ _ _ _ _ _ _ _) hS 13 10 cw_13 rfl g2 rfl d_Tx_begin_35 (fun H locs hP hS => ?_)
    refine lv_aload_n hx hb d_Tx_begin_36 rfl (lv_at hl 1 rfl) ?_
    refine o_get (v := .ref (ad 14)) C in_Tx hP 12 cw_12 rfl 1 (by decide) k_1_47 rfl rfl d_Tx_begin_37 ?_
    refine lv_iload hx hb d_Tx_begin_40 (lv_at hl 0 rfl) ?_
    refine lv_iload_n hx hb d_Tx_begin_42 rfl (lv_at hl 3 rfl) ?_
    obtain ⟨g3, h⟩ := o_gd_some h
    refine o_iast (f := (Tx_places a0)) (w1 := (o_cw ad ca rt Sj T0 (Tx_mk (upd (Tx_kinds a0) x5_16.toNatClampNeg x1) (upd (Tx_places a0) x5_16.toNatClampNeg x2) (Tx_sizes a0) (Tx_parents a0) (Tx_exponents a0) (Tx_starts a0) (Tx_afters a0) (Tx_slots a0) (Tx_negatives a0) (Tx_cells a0) ((Tx_total a0) + (1:Int32)) (Tx_used a0) (Tx_characters a0)) Rd Pg Pt Mk Lk Ck Jd Ld Pr)) C hP (hDD _ _ _ _ _ _ _ _ _ _ _ _ _) hS 14 11 cw_14 rfl g3 rfl d_Tx_begin_43 (fun H locs hP hS => ?_)
    refine lv_aload_n hx hb d_Tx_begin_44 rfl (lv_at hl 1 rfl) ?_
    refine o_get (v := .ref (ad 15)) C in_Tx hP 12 cw_12 rfl 2 (by decide) k_1_48 rfl rfl d_Tx_begin_45 ?_
    refine lv_iload hx hb d_Tx_begin_48 (lv_at hl 0 rfl) ?_
    refine lv_iconst (v := (0:Int32)) hx hb d_Tx_begin_50 (by decide) ?_
    obtain ⟨g4, h⟩ := o_gd_some h
    refine o_iast (f := (Tx_sizes a0)) (w1 := (o_cw ad ca rt Sj T0 (Tx_mk (upd (Tx_kinds a0) x5_16.toNatClampNeg x1) (upd (Tx_places a0) x5_16.toNatClampNeg x2) (upd (Tx_sizes a0) x5_16.toNatClampNeg (0:Int32)) (Tx_parents a0) (Tx_exponents a0) (Tx_starts a0) (Tx_afters a0) (Tx_slots a0) (Tx_negatives a0) (Tx_cells a0) ((Tx_total a0) + (1:Int32)) (Tx_used a0) (Tx_characters a0)) Rd Pg Pt Mk Lk Ck Jd Ld Pr)) C hP (hDD _ _ _ _ _ _ _ _ _ _ _ _ _) hS 15 12 cw_15 rfl g4 rfl d_Tx_begin_51 (fun H locs hP hS => ?_)
    refine lv_aload_n hx hb d_Tx_begin_52 rfl (lv_at hl 1 rfl) ?_
    refine o_get (v := .ref (ad 16)) C in_Tx hP 12 cw_12 rfl 3 (by decide) k_1_49 rfl rfl d_Tx_begin_53 ?_
    refine lv_iload hx hb d_Tx_begin_56 (lv_at hl 0 rfl) ?_
    refine lv_iload_n hx hb d_Tx_begin_58 rfl (lv_at hl 4 rfl) ?_
    obtain ⟨g5, h⟩ := o_gd_some h
    refine o_iast (f := (Tx_parents a0)) (w1 := (o_cw ad ca rt Sj T0 (Tx_mk (upd (Tx_kinds a0) x5_16.toNatClampNeg x1) (upd (Tx_places a0) x5_16.toNatClampNeg x2) (upd (Tx_sizes a0) x5_16.toNatClampNeg (0:Int32)) (upd (Tx_parents a0) x5_16.toNatClampNeg x3) (Tx_exponents a0) (Tx_starts a0) (Tx_afters a0) (Tx_slots a0) (Tx_negatives a0) (Tx_cells a0) ((Tx_total a0) + (1:Int32)) (Tx_used a0) (Tx_characters a0)) Rd Pg Pt Mk Lk Ck Jd Ld Pr)) C hP (hDD _ _ _ _ _ _ _ _ _ _ _ _ _) hS 16 13 cw_16 rfl g5 rfl d_Tx_begin_59 (fun H locs hP hS => ?_)
    refine lv_aload_n hx hb d_Tx_begin_60 rfl (lv_at hl 1 rfl) ?_
    refine o_get (v := .ref (ad 17)) C in_Tx hP 12 cw_12 rfl 4 (by decide) k_1_50 rfl rfl d_Tx_begin_61 ?_
    refine lv_iload hx hb d_Tx_begin_64 (lv_at hl 0 rfl) ?_
    refine lv_iconst (v := (0:Int32)) hx hb d_Tx_begin_66 (by decide) ?_
    obtain ⟨g6, h⟩ := o_gd_some h
    refine o_iast (f := (Tx_exponents a0)) (w1 := (o_cw ad ca rt Sj T0 (Tx_mk (upd (Tx_kinds a0) x5_16.toNatClampNeg x1) (upd (Tx_places a0) x5_16.toNatClampNeg x2) (upd (Tx_sizes a0) x5_16.toNatClampNeg (0:Int32)) (upd (Tx_parents a0) x5_16.toNatClampNeg x3) (upd (Tx_exponents a0) x5_16.toNatClampNeg (0:Int32)) (Tx_starts a0) (Tx_afters a0) (Tx_slots a0) (Tx_negatives a0) (Tx_cells a0) ((Tx_total a0) + (1:Int32)) (Tx_used a0) (Tx_characters a0)) Rd Pg Pt Mk Lk Ck Jd Ld Pr)) C hP (hDD _ _ _ _ _ _ _ _ _ _ _ _ _) hS 17 14 cw_17 rfl g6 rfl d_Tx_begin_67 (fun H locs hP hS => ?_)
    refine lv_aload_n hx hb d_Tx_begin_68 rfl (lv_at hl 1 rfl) ?_
    refine o_get (v := .ref (ad 18)) C in_Tx hP 12 cw_12 rfl 5 (by decide) k_1_51 rfl rfl d_Tx_begin_69 ?_
    refine lv_iload hx hb d_Tx_begin_72 (lv_at hl 0 rfl) ?_
    refine lv_aload_n hx hb d_Tx_begin_74 rfl (lv_at hl 1 rfl) ?_
    refine o_get (v := .int (Tx_used a0)) C in_Tx hP 12 cw_12 rfl 11 (by decide) k_1_57 rfl rfl d_Tx_begin_75 ?_
    obtain ⟨g7, h⟩ := o_gd_some h
    refine o_iast (f := (Tx_starts a0)) (w1 := (o_cw ad ca rt Sj T0 (Tx_mk (upd (Tx_kinds a0) x5_16.toNatClampNeg x1) (upd (Tx_places a0) x5_16.toNatClampNeg x2) (upd (Tx_sizes a0) x5_16.toNatClampNeg (0:Int32)) (upd (Tx_parents a0) x5_16.toNatClampNeg x3) (upd (Tx_exponents a0) x5_16.toNatClampNeg (0:Int32)) (upd (Tx_starts a0) x5_16.toNatClampNeg (Tx_used a0)) (Tx_afters a0) (Tx_slots a0) (Tx_negatives a0) (Tx_cells a0) ((Tx_total a0) + (1:Int32)) (Tx_used a0) (Tx_characters a0)) Rd Pg Pt Mk Lk Ck Jd Ld Pr)) C hP (hDD _ _ _ _ _ _ _ _ _ _ _ _ _) hS 18 15 cw_18 rfl g7 rfl d_Tx_begin_78 (fun H locs hP hS => ?_)
    refine lv_aload_n hx hb d_Tx_begin_79 rfl (lv_at hl 1 rfl) ?_
    refine o_get (v := .ref (ad 19)) C in_Tx hP 12 cw_12 rfl 6 (by decide) k_1_52 rfl rfl d_Tx_begin_80 ?_
    refine lv_iload hx hb d_Tx_begin_83 (lv_at hl 0 rfl) ?_
    refine lv_aload_n hx hb d_Tx_begin_85 rfl (lv_at hl 1 rfl) ?_
    refine o_get (v := .int ((Tx_total a0) + (1:Int32))) C in_Tx hP 12 cw_12 rfl 10 (by decide) k_1_56 rfl rfl d_Tx_begin_86 ?_
    obtain ⟨g8, h⟩ := o_gd_some h
    refine o_iast (f := (Tx_afters a0)) (w1 := (o_cw ad ca rt Sj T0 (Tx_mk (upd (Tx_kinds a0) x5_16.toNatClampNeg x1) (upd (Tx_places a0) x5_16.toNatClampNeg x2) (upd (Tx_sizes a0) x5_16.toNatClampNeg (0:Int32)) (upd (Tx_parents a0) x5_16.toNatClampNeg x3) (upd (Tx_exponents a0) x5_16.toNatClampNeg (0:Int32)) (upd (Tx_starts a0) x5_16.toNatClampNeg (Tx_used a0)) (upd (Tx_afters a0) x5_16.toNatClampNeg ((Tx_total a0) + (1:Int32))) (Tx_slots a0) (Tx_negatives a0) (Tx_cells a0) ((Tx_total a0) + (1:Int32)) (Tx_used a0) (Tx_characters a0)) Rd Pg Pt Mk Lk Ck Jd Ld Pr)) C hP (hDD _ _ _ _ _ _ _ _ _ _ _ _ _) hS 19 16 cw_19 rfl g8 rfl d_Tx_begin_89 (fun H locs hP hS => ?_)
    refine lv_aload_n hx hb d_Tx_begin_90 rfl (lv_at hl 1 rfl) ?_
    refine o_get (v := .ref (ad 20)) C in_Tx hP 12 cw_12 rfl 7 (by decide) k_1_53 rfl rfl d_Tx_begin_91 ?_
    refine lv_iload hx hb d_Tx_begin_94 (lv_at hl 0 rfl) ?_
    refine lv_iload hx hb d_Tx_begin_96 (lv_at hl 5 rfl) ?_
    obtain ⟨g9, h⟩ := o_gd_some h
    refine o_iast (f := (Tx_slots a0)) (w1 := (o_cw ad ca rt Sj T0 (Tx_mk (upd (Tx_kinds a0) x5_16.toNatClampNeg x1) (upd (Tx_places a0) x5_16.toNatClampNeg x2) (upd (Tx_sizes a0) x5_16.toNatClampNeg (0:Int32)) (upd (Tx_parents a0) x5_16.toNatClampNeg x3) (upd (Tx_exponents a0) x5_16.toNatClampNeg (0:Int32)) (upd (Tx_starts a0) x5_16.toNatClampNeg (Tx_used a0)) (upd (Tx_afters a0) x5_16.toNatClampNeg ((Tx_total a0) + (1:Int32))) (upd (Tx_slots a0) x5_16.toNatClampNeg x4) (Tx_negatives a0) (Tx_cells a0) ((Tx_total a0) + (1:Int32)) (Tx_used a0) (Tx_characters a0)) Rd Pg Pt Mk Lk Ck Jd Ld Pr)) C hP (hDD _ _ _ _ _ _ _ _ _ _ _ _ _) hS 20 17 cw_20 rfl g9 rfl d_Tx_begin_98 (fun H locs hP hS => ?_)
    refine lv_aload_n hx hb d_Tx_begin_99 rfl (lv_at hl 1 rfl) ?_
    refine o_get (v := .ref (ad 21)) C in_Tx hP 12 cw_12 rfl 8 (by decide) k_1_54 rfl rfl d_Tx_begin_100 ?_
    refine lv_iload hx hb d_Tx_begin_103 (lv_at hl 0 rfl) ?_
    refine lv_iconst (v := (0:Int32)) hx hb d_Tx_begin_105 (by decide) ?_
    obtain ⟨g10, h⟩ := o_gd_some h
    refine o_zast (f := (Tx_negatives a0)) (w1 := (o_cw ad ca rt Sj T0 (Tx_mk (upd (Tx_kinds a0) x5_16.toNatClampNeg x1) (upd (Tx_places a0) x5_16.toNatClampNeg x2) (upd (Tx_sizes a0) x5_16.toNatClampNeg (0:Int32)) (upd (Tx_parents a0) x5_16.toNatClampNeg x3) (upd (Tx_exponents a0) x5_16.toNatClampNeg (0:Int32)) (upd (Tx_starts a0) x5_16.toNatClampNeg (Tx_used a0)) (upd (Tx_afters a0) x5_16.toNatClampNeg ((Tx_total a0) + (1:Int32))) (upd (Tx_slots a0) x5_16.toNatClampNeg x4) (upd (Tx_negatives a0) x5_16.toNatClampNeg (vp_nar .boolean (0:Int32))) (Tx_cells a0) ((Tx_total a0) + (1:Int32)) (Tx_used a0) (Tx_characters a0)) Rd Pg Pt Mk Lk Ck Jd Ld Pr)) C hP (hDD _ _ _ _ _ _ _ _ _ _ _ _ _) hS 21 18 cw_21 rfl g10 rfl d_Tx_begin_106 (fun H locs hP hS => ?_)
    refine lv_iload hx hb d_Tx_begin_107 (lv_at hl 0 rfl) ?_
    cases h
    exact o_ri C hP hS d_Tx_begin_109
  · replace h := o_ff c1 h
    refine lv_iconst (v := (-1:Int32)) hx hb d_Tx_begin_10 (by decide) ?_
    cases h
    exact o_ri (v := (-1:Int32)) C hP hS d_Tx_begin_11
set_option maxHeartbeats 4000000 in
set_option maxRecDepth 100000 in
theorem c_Tx_addDigit_0 {E : (Nat → Prop) → State → Heap → Prop} {D : va_G} {ad kd sd vd xd : Nat → Nat} {ca : Nat → ClassId} (hE : o_EK E kd sd vd xd) (l : Launch) (x1 : Int32) (a0 : STx) (Sj : SSJ) (T1 : STx) (Rd : SRd) (Pg : SPg) (Pt : SPt) (Mk : SMk) (Lk : SLk) (Ck : SCk) (Jd : SJd) (Ld : SLd) (Pr : SPr) (rt : Nat) {r : STx} (h : m_Tx_addDigit x1 a0 = some r) : o_Cn E l D o_cls (o_tys ca) y_Tx_addDigit cc_Tx_addDigit rm_Tx_addDigit [.ref (ad 1), .int x1] (o_cw ad ca rt Sj a0 T1 Rd Pg Pt Mk Lk Ck Jd Ld Pr) (o_cw ad ca rt Sj r T1 Rd Pg Pt Mk Lk Ck Jd Ld Pr) none := by
  refine o_Cn_of (by decide) (Nat.le_of_ble_eq_true rfl) ?_
  intro p e s m below meth c A ls C hD hP hS hl
  have hDD : ∀ (rt : Nat) (Sj : SSJ) (T0 : STx) (T1 : STx) (Rd : SRd) (Pg : SPg) (Pt : SPt) (Mk : SMk) (Lk : SLk) (Ck : SCk) (Jd : SJd) (Ld : SLd) (Pr : SPr), va_D A (o_cw ad ca rt Sj T0 T1 Rd Pg Pt Mk Lk Ck Jd Ld Pr) := fun _ _ _ _ _ _ _ _ _ _ _ _ _ => o_D_map hD rfl
  have hl : lv_has ls 2 [(0, .ref (ad 1)), (1, .int x1)] := hl
  unfold m_Tx_addDigit at h
  have C0 := C
  obtain ⟨hx, hb, -, -, -, hown, hts, hK, -, -⟩ := C0
  refine lv_aload_n hx hb d_Tx_addDigit_0 rfl (lv_at hl 0 rfl) ?_
  refine o_get (v := .int (Tx_used a0)) C in_Tx hP 1 cw_1 rfl 11 (by decide) k_1_57 rfl rfl d_Tx_addDigit_1 ?_
  refine lv_aload_n hx hb d_Tx_addDigit_4 rfl (lv_at hl 0 rfl) ?_
  refine o_get (v := .ref (ad 11)) C in_Tx hP 1 cw_1 rfl 9 (by decide) k_1_55 rfl rfl d_Tx_addDigit_5 ?_
  refine va_alen (v := (8192:Int32)) hx hb hK hP 11 9 cw_11 rfl rfl d_Tx_addDigit_8 ?_
  refine lv_icmp_ge (tgt := 32) hx hb d_Tx_addDigit_9 (by decide) (fun c1 => ?_) (fun c1 => ?_)
  · replace h := o_tt c1 h
    cases h
    exact o_rv C hP hS d_Tx_addDigit_32
  · replace h := o_ff c1 h
    refine lv_aload_n hx hb d_Tx_addDigit_12 rfl (lv_at hl 0 rfl) ?_
    refine o_get (v := .ref (ad 11)) C in_Tx hP 1 cw_1 rfl 9 (by decide) k_1_55 rfl rfl d_Tx_addDigit_13 ?_
    refine lv_aload_n hx hb d_Tx_addDigit_16 rfl (lv_at hl 0 rfl) ?_
    refine o_get (v := .int (Tx_used a0)) C in_Tx hP 1 cw_1 rfl 11 (by decide) k_1_57 rfl rfl d_Tx_addDigit_17 ?_
    refine lv_iload_n hx hb d_Tx_addDigit_20 rfl (lv_at hl 1 rfl) ?_
    obtain ⟨g2, h⟩ := o_gd_some h
    refine o_iast (f := (Tx_cells a0)) (w1 := (o_cw ad ca rt Sj (Tx_mk (Tx_kinds a0) (Tx_places a0) (Tx_sizes a0) (Tx_parents a0) (Tx_exponents a0) (Tx_starts a0) (Tx_afters a0) (Tx_slots a0) (Tx_negatives a0) (upd (Tx_cells a0) (Tx_used a0).toNatClampNeg x1) (Tx_total a0) (Tx_used a0) (Tx_characters a0)) T1 Rd Pg Pt Mk Lk Ck Jd Ld Pr)) C hP (hDD _ _ _ _ _ _ _ _ _ _ _ _ _) hS 11 9 cw_11 rfl g2 rfl d_Tx_addDigit_21 (fun H locs hP hS => ?_)
    refine lv_aload_n hx hb d_Tx_addDigit_22 rfl (lv_at hl 0 rfl) ?_
    refine lv_dup hx hb d_Tx_addDigit_23 rfl ?_
    refine o_get (v := .int (Tx_used a0)) C in_Tx hP 1 cw_1 rfl 11 (by decide) k_1_57 rfl rfl d_Tx_addDigit_24 ?_
    refine lv_iconst (v := (1:Int32)) hx hb d_Tx_addDigit_27 (by decide) ?_
    refine lv_iadd hx hb d_Tx_addDigit_28 ?_
    refine o_put (v := .int ((Tx_used a0) + (1:Int32))) (ty := .int) (w1 := (o_cw ad ca rt Sj (Tx_mk (Tx_kinds a0) (Tx_places a0) (Tx_sizes a0) (Tx_parents a0) (Tx_exponents a0) (Tx_starts a0) (Tx_afters a0) (Tx_slots a0) (Tx_negatives a0) (upd (Tx_cells a0) (Tx_used a0).toNatClampNeg x1) (Tx_total a0) ((Tx_used a0) + (1:Int32)) (Tx_characters a0)) T1 Rd Pg Pt Mk Lk Ck Jd Ld Pr)) C in_Tx t_Tx t_Tx_ok n_Tx hP (hDD _ _ _ _ _ _ _ _ _ _ _ _ _) hS 1 cw_1 rfl 11 (by decide) k_1_57 rfl rfl (by decide +kernel) rfl rfl (Nat.le_of_ble_eq_true rfl) rfl d_Tx_addDigit_29 (fun H locs hP hS => ?_)
    cases h
    exact o_rv C hP hS d_Tx_addDigit_32
set_option maxHeartbeats 4000000 in
set_option maxRecDepth 100000 in
theorem c_Tx_addDigit_1 {E : (Nat → Prop) → State → Heap → Prop} {D : va_G} {ad kd sd vd xd : Nat → Nat} {ca : Nat → ClassId} (hE : o_EK E kd sd vd xd) (l : Launch) (x1 : Int32) (a0 : STx) (Sj : SSJ) (T0 : STx) (Rd : SRd) (Pg : SPg) (Pt : SPt) (Mk : SMk) (Lk : SLk) (Ck : SCk) (Jd : SJd) (Ld : SLd) (Pr : SPr) (rt : Nat) {r : STx} (h : m_Tx_addDigit x1 a0 = some r) : o_Cn E l D o_cls (o_tys ca) y_Tx_addDigit cc_Tx_addDigit rm_Tx_addDigit [.ref (ad 12), .int x1] (o_cw ad ca rt Sj T0 a0 Rd Pg Pt Mk Lk Ck Jd Ld Pr) (o_cw ad ca rt Sj T0 r Rd Pg Pt Mk Lk Ck Jd Ld Pr) none := by
  refine o_Cn_of (by decide) (Nat.le_of_ble_eq_true rfl) ?_
  intro p e s m below meth c A ls C hD hP hS hl
  have hDD : ∀ (rt : Nat) (Sj : SSJ) (T0 : STx) (T1 : STx) (Rd : SRd) (Pg : SPg) (Pt : SPt) (Mk : SMk) (Lk : SLk) (Ck : SCk) (Jd : SJd) (Ld : SLd) (Pr : SPr), va_D A (o_cw ad ca rt Sj T0 T1 Rd Pg Pt Mk Lk Ck Jd Ld Pr) := fun _ _ _ _ _ _ _ _ _ _ _ _ _ => o_D_map hD rfl
  have hl : lv_has ls 2 [(0, .ref (ad 12)), (1, .int x1)] := hl
  unfold m_Tx_addDigit at h
  have C0 := C
  obtain ⟨hx, hb, -, -, -, hown, hts, hK, -, -⟩ := C0
  refine lv_aload_n hx hb d_Tx_addDigit_0 rfl (lv_at hl 0 rfl) ?_
  refine o_get (v := .int (Tx_used a0)) C in_Tx hP 12 cw_12 rfl 11 (by decide) k_1_57 rfl rfl d_Tx_addDigit_1 ?_
  refine lv_aload_n hx hb d_Tx_addDigit_4 rfl (lv_at hl 0 rfl) ?_
  refine o_get (v := .ref (ad 22)) C in_Tx hP 12 cw_12 rfl 9 (by decide) k_1_55 rfl rfl d_Tx_addDigit_5 ?_
  refine va_alen (v := (8192:Int32)) hx hb hK hP 22 19 cw_22 rfl rfl d_Tx_addDigit_8 ?_
  refine lv_icmp_ge (tgt := 32) hx hb d_Tx_addDigit_9 (by decide) (fun c1 => ?_) (fun c1 => ?_)
  · replace h := o_tt c1 h
    cases h
    exact o_rv C hP hS d_Tx_addDigit_32
  · replace h := o_ff c1 h
    refine lv_aload_n hx hb d_Tx_addDigit_12 rfl (lv_at hl 0 rfl) ?_
    refine o_get (v := .ref (ad 22)) C in_Tx hP 12 cw_12 rfl 9 (by decide) k_1_55 rfl rfl d_Tx_addDigit_13 ?_
    refine lv_aload_n hx hb d_Tx_addDigit_16 rfl (lv_at hl 0 rfl) ?_
    refine o_get (v := .int (Tx_used a0)) C in_Tx hP 12 cw_12 rfl 11 (by decide) k_1_57 rfl rfl d_Tx_addDigit_17 ?_
    refine lv_iload_n hx hb d_Tx_addDigit_20 rfl (lv_at hl 1 rfl) ?_
    obtain ⟨g2, h⟩ := o_gd_some h
    refine o_iast (f := (Tx_cells a0)) (w1 := (o_cw ad ca rt Sj T0 (Tx_mk (Tx_kinds a0) (Tx_places a0) (Tx_sizes a0) (Tx_parents a0) (Tx_exponents a0) (Tx_starts a0) (Tx_afters a0) (Tx_slots a0) (Tx_negatives a0) (upd (Tx_cells a0) (Tx_used a0).toNatClampNeg x1) (Tx_total a0) (Tx_used a0) (Tx_characters a0)) Rd Pg Pt Mk Lk Ck Jd Ld Pr)) C hP (hDD _ _ _ _ _ _ _ _ _ _ _ _ _) hS 22 19 cw_22 rfl g2 rfl d_Tx_addDigit_21 (fun H locs hP hS => ?_)
    refine lv_aload_n hx hb d_Tx_addDigit_22 rfl (lv_at hl 0 rfl) ?_
    refine lv_dup hx hb d_Tx_addDigit_23 rfl ?_
    refine o_get (v := .int (Tx_used a0)) C in_Tx hP 12 cw_12 rfl 11 (by decide) k_1_57 rfl rfl d_Tx_addDigit_24 ?_
    refine lv_iconst (v := (1:Int32)) hx hb d_Tx_addDigit_27 (by decide) ?_
    refine lv_iadd hx hb d_Tx_addDigit_28 ?_
    refine o_put (v := .int ((Tx_used a0) + (1:Int32))) (ty := .int) (w1 := (o_cw ad ca rt Sj T0 (Tx_mk (Tx_kinds a0) (Tx_places a0) (Tx_sizes a0) (Tx_parents a0) (Tx_exponents a0) (Tx_starts a0) (Tx_afters a0) (Tx_slots a0) (Tx_negatives a0) (upd (Tx_cells a0) (Tx_used a0).toNatClampNeg x1) (Tx_total a0) ((Tx_used a0) + (1:Int32)) (Tx_characters a0)) Rd Pg Pt Mk Lk Ck Jd Ld Pr)) C in_Tx t_Tx t_Tx_ok n_Tx hP (hDD _ _ _ _ _ _ _ _ _ _ _ _ _) hS 12 cw_12 rfl 11 (by decide) k_1_57 rfl rfl (by decide +kernel) rfl rfl (Nat.le_of_ble_eq_true rfl) rfl d_Tx_addDigit_29 (fun H locs hP hS => ?_)
    cases h
    exact o_rv C hP hS d_Tx_addDigit_32
set_option maxHeartbeats 4000000 in
set_option maxRecDepth 100000 in
theorem w_Rd_readDigits_b2_0 {E : (Nat → Prop) → State → Heap → Prop} {p : Program} {l : Launch} {e : Env} {s : State} {m : MethodId} {args : Array Value} {below : List Frame} {meth : Method} {c : Code} {D : va_G} {ad kd sd vd xd : Nat → Nat} {ca : Nat → ClassId} {A : Nat → Prop} {Q : State → Prop} (hE : o_EK E kd sd vd xd) (C : o_Cx E p s m args meth c D o_cls (o_tys ca) "SchemaJudge$Reader" b_Rd_readDigits (some .int) 4 cc_Rd_readDigits A) (hDD : ∀ (rt : Nat) (Sj : SSJ) (T0 : STx) (T1 : STx) (Rd : SRd) (Pg : SPg) (Pt : SPt) (Mk : SMk) (Lk : SLk) (Ck : SCk) (Jd : SJd) (Ld : SLd) (Pr : SPr), va_D A (o_cw ad ca rt Sj T0 T1 Rd Pg Pt Mk Lk Ck Jd Ld Pr)) (n : Nat) (u2_x1 : Int32) (u2_Sj : SSJ) (u2_T1 : STx) (u2_Pg : SPg) (u2_Pt : SPt) (u2_Mk : SMk) (u2_Lk : SLk) (u2_Ck : SCk) (u2_Jd : SJd) (u2_Ld : SLd) (u2_Pr : SPr) (z : Int32 × STx × SRd) (q : Nat × Int32 × STx × SRd) (h : m_Rd_readDigits_b2 n u2_x1 z = some q) (h0 : q.1 = 0 → o_At p l e rm_Rd_readDigits s m args below meth c Q o_cls D A 4 2 [] (o_cw ad ca 1 u2_Sj q.2.2.1 u2_T1 q.2.2.2 u2_Pg u2_Pt u2_Mk u2_Lk u2_Ck u2_Jd u2_Ld u2_Pr) [(0, .ref (ad 23)), (1, .int u2_x1), (2, .int q.2.1)]) (h1 : q.1 ≠ 0 → (if q.1 = 1 then o_At p l e rm_Rd_readDigits s m args below meth c Q o_cls D A 4 19 [] (o_cw ad ca 1 u2_Sj q.2.2.1 u2_T1 q.2.2.2 u2_Pg u2_Pt u2_Mk u2_Lk u2_Ck u2_Jd u2_Ld u2_Pr) [(2, .int q.2.1)] else o_At p l e rm_Rd_readDigits s m args below meth c Q o_cls D A 4 48 [] (o_cw ad ca 1 u2_Sj q.2.2.1 u2_T1 q.2.2.2 u2_Pg u2_Pt u2_Mk u2_Lk u2_Ck u2_Jd u2_Ld u2_Pr) [(1, .int u2_x1)])) : o_At p l e rm_Rd_readDigits s m args below meth c Q o_cls D A 4 2 [] (o_cw ad ca 1 u2_Sj z.2.1 u2_T1 z.2.2 u2_Pg u2_Pt u2_Mk u2_Lk u2_Ck u2_Jd u2_Ld u2_Pr) [(0, .ref (ad 23)), (1, .int u2_x1), (2, .int z.1)] := by
  unfold m_Rd_readDigits_b2 at h
  intro H locs ls hP hS hl
  have C0 := C
  obtain ⟨hx, hb, -, -, -, hown, hts, hK, -, -⟩ := C0
  refine lv_iload_n hx hb d_Rd_readDigits_2 rfl (lv_at hl 2 rfl) ?_
  refine lv_iload_n hx hb d_Rd_readDigits_3 rfl (lv_at hl 1 rfl) ?_
  refine lv_icmp_ge (tgt := 48) hx hb d_Rd_readDigits_4 (by decide) (fun c1 => ?_) (fun c1 => ?_)
  · replace h := o_tt c1 h
    cases h
    exact h1 (Nat.succ_ne_zero 1) _ _ _ hP hS (lv_sub hl [1] rfl)
  · replace h := o_ff c1 h
    refine lv_aload_n hx hb d_Rd_readDigits_7 rfl (lv_at hl 0 rfl) ?_
    obtain ⟨q1, hq1, h⟩ := o_bd_some h
    refine o_V (st1 := [.int q1]) (w1 := (o_cw ad ca 1 u2_Sj z.2.1 u2_T1 z.2.2 u2_Pg u2_Pt u2_Mk u2_Lk u2_Ck u2_Jd u2_Ld u2_Pr)) hE.1 C (c_Rd_peek hE l z.2.2 u2_Sj z.2.1 u2_T1 u2_Pg u2_Pt u2_Mk u2_Lk u2_Ck u2_Jd u2_Ld u2_Pr 1 hq1) hP (hDD _ _ _ _ _ _ _ _ _ _ _ _ _) hS hl.1 rfl cw_23 k_3_38 k_3_40 k_s_3 k_1_3 k_3_41 hv_Rd_peek rfl rfl ⟨(Nat.le_of_ble_eq_true rfl), (Nat.le_of_ble_eq_true rfl)⟩ rfl (Nat.le_of_ble_eq_true rfl) ⟨Nat.zero_le _, Nat.zero_le _⟩ rfl d_Rd_readDigits_8 (fun H locs hP hS => ?_)
    refine lv_istore_n (lv' := [(3, .int q1), (0, .ref (ad 23)), (1, .int u2_x1), (2, .int z.1)]) hx hb d_Rd_readDigits_11 rfl hl (by decide) rfl (fun ls hl => ?_)
    refine lv_iload_n hx hb d_Rd_readDigits_12 rfl (lv_at hl 0 rfl) ?_
    obtain ⟨q2, hq2, h⟩ := o_bd_some h
    refine o_SN (st1 := [.int q2]) (w1 := (o_cw ad ca 1 u2_Sj z.2.1 u2_T1 z.2.2 u2_Pg u2_Pt u2_Mk u2_Lk u2_Ck u2_Jd u2_Ld u2_Pr)) hE.1 C (c_SJ_isDigit hE l q1 u2_Sj z.2.1 u2_T1 z.2.2 u2_Pg u2_Pt u2_Mk u2_Lk u2_Ck u2_Jd u2_Ld u2_Pr 1 hq2) hP (hDD _ _ _ _ _ _ _ _ _ _ _ _ _) hS hl.1 (hE.2.1 _ _ _ C.2.2.2.2.2.2.2.2.2 _ nw_4) k_3_46 k_1_1 k_3_47 hs_SJ_isDigit rfl rfl ⟨(Nat.le_of_ble_eq_true rfl), (Nat.le_of_ble_eq_true rfl)⟩ rfl (Nat.le_of_ble_eq_true rfl) ⟨Nat.zero_le _, Nat.zero_le _⟩ rfl d_Rd_readDigits_13 (fun H locs hP hS => ?_)
    refine lv_if_ne (tgt := 21) hx hb d_Rd_readDigits_16 (by decide) (fun c2 => ?_) (fun c2 => ?_)
    · replace h := o_ff c2 h
      refine lv_aload_n hx hb d_Rd_readDigits_21 rfl (lv_at hl 1 rfl) ?_
      refine o_get (v := .ref (ad 1)) C in_Rd hP 23 cw_23 rfl 2 (by decide) k_1_96 rfl rfl d_Rd_readDigits_22 ?_
      refine lv_iload_n hx hb d_Rd_readDigits_25 rfl (lv_at hl 0 rfl) ?_
      refine lv_bipush (v := (48:Int32)) hx hb d_Rd_readDigits_26 (by decide) ?_
      refine lv_isub hx hb d_Rd_readDigits_28 ?_
      obtain ⟨q3, hq3, h⟩ := o_bd_some h
      refine o_V (st1 := []) (w1 := (o_cw ad ca 1 u2_Sj q3 u2_T1 z.2.2 u2_Pg u2_Pt u2_Mk u2_Lk u2_Ck u2_Jd u2_Ld u2_Pr)) hE.1 C (c_Tx_addDigit_0 hE l (q1 - (48:Int32)) z.2.1 u2_Sj u2_T1 z.2.2 u2_Pg u2_Pt u2_Mk u2_Lk u2_Ck u2_Jd u2_Ld u2_Pr 1 hq3) hP (hDD _ _ _ _ _ _ _ _ _ _ _ _ _) hS hl.1 rfl cw_1 k_3_119 k_3_120 k_3_121 k_1_2 k_3_122 hv_Tx_addDigit rfl rfl ⟨(Nat.le_of_ble_eq_true rfl), (Nat.le_of_ble_eq_true rfl)⟩ rfl (Nat.le_of_ble_eq_true rfl) ⟨Nat.zero_le _, Nat.zero_le _⟩ rfl d_Rd_readDigits_29 (fun H locs hP hS => ?_)
      refine lv_aload_n hx hb d_Rd_readDigits_32 rfl (lv_at hl 1 rfl) ?_
      refine lv_dup hx hb d_Rd_readDigits_33 rfl ?_
      refine o_get (v := .int (Rd_position z.2.2)) C in_Rd hP 23 cw_23 rfl 3 (by decide) k_1_97 rfl rfl d_Rd_readDigits_34 ?_
      refine lv_iconst (v := (1:Int32)) hx hb d_Rd_readDigits_37 (by decide) ?_
      refine lv_iadd hx hb d_Rd_readDigits_38 ?_
      refine o_put (v := .int ((Rd_position z.2.2) + (1:Int32))) (ty := .int) (w1 := (o_cw ad ca 1 u2_Sj q3 u2_T1 (Rd_mk (Rd_words z.2.2) (Rd_wordCount z.2.2) ((Rd_position z.2.2) + (1:Int32)) (Rd_limit z.2.2) (Rd_wrongPlace z.2.2)) u2_Pg u2_Pt u2_Mk u2_Lk u2_Ck u2_Jd u2_Ld u2_Pr)) C in_Rd t_Rd t_Rd_ok n_Rd hP (hDD _ _ _ _ _ _ _ _ _ _ _ _ _) hS 23 cw_23 rfl 3 (by decide) k_1_97 rfl rfl (by decide +kernel) rfl rfl (Nat.le_of_ble_eq_true rfl) rfl d_Rd_readDigits_39 (fun H locs hP hS => ?_)
      obtain ⟨x2_42, ex2_42⟩ : ∃ y : Int32, y = z.1 + (1:Int32) := ⟨_, rfl⟩
      replace h := o_nm_at ex2_42 h
      refine lv_iinc (v := x2_42) (lv' := [(2, .int x2_42), (3, .int q1), (0, .ref (ad 23)), (1, .int u2_x1)]) hx hb d_Rd_readDigits_42 hl (k := 3) rfl (by rw [ex2_42]; rfl) (by decide) rfl (fun ls hl => ?_)
      refine lv_goto (tgt := 2) hx hb d_Rd_readDigits_45 (by decide) ?_
      cases h
      exact h0 rfl _ _ _ hP hS (lv_sub hl [2, 3, 0] rfl)
    · replace h := o_tt c2 h
      cases h
      exact h1 (Nat.succ_ne_zero 0) _ _ _ hP hS (lv_sub hl [3] rfl)
set_option maxHeartbeats 4000000 in
set_option maxRecDepth 100000 in
theorem c_Rd_readDigits_0 {E : (Nat → Prop) → State → Heap → Prop} {D : va_G} {ad kd sd vd xd : Nat → Nat} {ca : Nat → ClassId} (hE : o_EK E kd sd vd xd) (l : Launch) (n : Nat) (x1 : Int32) (tc : STx) (Rd : SRd) (Sj : SSJ) (T1 : STx) (Pg : SPg) (Pt : SPt) (Mk : SMk) (Lk : SLk) (Ck : SCk) (Jd : SJd) (Ld : SLd) (Pr : SPr) {r : Int32 × STx × SRd} (h : m_Rd_readDigits n x1 tc Rd = some r) : o_Cn E l D o_cls (o_tys ca) y_Rd_readDigits cc_Rd_readDigits rm_Rd_readDigits [.ref (ad 23), .int x1] (o_cw ad ca 1 Sj tc T1 Rd Pg Pt Mk Lk Ck Jd Ld Pr) (o_cw ad ca 1 Sj r.2.1 T1 r.2.2 Pg Pt Mk Lk Ck Jd Ld Pr) (some (.int r.1)) := by
  refine o_Cn_of (by decide) (Nat.le_of_ble_eq_true rfl) ?_
  intro p e s m below meth c A ls C hD hP hS hl
  have hDD : ∀ (rt : Nat) (Sj : SSJ) (T0 : STx) (T1 : STx) (Rd : SRd) (Pg : SPg) (Pt : SPt) (Mk : SMk) (Lk : SLk) (Ck : SCk) (Jd : SJd) (Ld : SLd) (Pr : SPr), va_D A (o_cw ad ca rt Sj T0 T1 Rd Pg Pt Mk Lk Ck Jd Ld Pr) := fun _ _ _ _ _ _ _ _ _ _ _ _ _ => o_D_map hD rfl
  have hl : lv_has ls 4 [(0, .ref (ad 23)), (1, .int x1)] := hl
  unfold m_Rd_readDigits at h
  have C0 := C
  obtain ⟨hx, hb, -, -, -, hown, hts, hK, -, -⟩ := C0
  refine lv_iconst (v := (0:Int32)) hx hb d_Rd_readDigits_0 (by decide) ?_
  refine lv_istore_n (lv' := [(2, .int (0:Int32)), (0, .ref (ad 23)), (1, .int x1)]) hx hb d_Rd_readDigits_1 rfl hl (by decide) rfl (fun ls hl => ?_)
  obtain ⟨q4, hq4, h⟩ := o_bd_some h
  refine o_sim2 (AH := fun zz => o_At p l e rm_Rd_readDigits s m _ below meth c _ o_cls D A 4 2 [] (o_cw ad ca 1 Sj zz.2.1 T1 zz.2.2 Pg Pt Mk Lk Ck Jd Ld Pr) [(0, .ref (ad 23)), (1, .int x1), (2, .int zz.1)]) (AX := fun qq => if qq.1 = 1 then o_At p l e rm_Rd_readDigits s m _ below meth c _ o_cls D A 4 19 [] (o_cw ad ca 1 Sj qq.2.2.1 T1 qq.2.2.2 Pg Pt Mk Lk Ck Jd Ld Pr) [(2, .int qq.2.1)] else o_At p l e rm_Rd_readDigits s m _ below meth c _ o_cls D A 4 48 [] (o_cw ad ca 1 Sj qq.2.2.1 T1 qq.2.2.2 Pg Pt Mk Lk Ck Jd Ld Pr) [(1, .int x1)]) (fun zz qq h h0 h1 => w_Rd_readDigits_b2_0 hE C hDD n x1 Sj T1 Pg Pt Mk Lk Ck Jd Ld Pr zz qq h h0 h1) n _ q4 hq4 ?_ _ _ _ hP hS (lv_sub hl [1, 2, 0] rfl)
  by_cases c3 : q4.1 = 1
  · replace h := o_tt c3 h
    refine o_ip c3 ?_
    intro H locs ls hP hS hl
    refine lv_iload_n hx hb d_Rd_readDigits_19 rfl (lv_at hl 0 rfl) ?_
    cases h
    exact o_ri C hP hS d_Rd_readDigits_20
  replace h := o_ff c3 h
  refine o_in_ c3 ?_
  intro H locs ls hP hS hl
  refine lv_iload_n hx hb d_Rd_readDigits_48 rfl (lv_at hl 0 rfl) ?_
  cases h
  exact o_ri C hP hS d_Rd_readDigits_49
set_option maxHeartbeats 4000000 in
set_option maxRecDepth 100000 in
theorem w_Rd_readDigits_b2_1 {E : (Nat → Prop) → State → Heap → Prop} {p : Program} {l : Launch} {e : Env} {s : State} {m : MethodId} {args : Array Value} {below : List Frame} {meth : Method} {c : Code} {D : va_G} {ad kd sd vd xd : Nat → Nat} {ca : Nat → ClassId} {A : Nat → Prop} {Q : State → Prop} (hE : o_EK E kd sd vd xd) (C : o_Cx E p s m args meth c D o_cls (o_tys ca) "SchemaJudge$Reader" b_Rd_readDigits (some .int) 4 cc_Rd_readDigits A) (hDD : ∀ (rt : Nat) (Sj : SSJ) (T0 : STx) (T1 : STx) (Rd : SRd) (Pg : SPg) (Pt : SPt) (Mk : SMk) (Lk : SLk) (Ck : SCk) (Jd : SJd) (Ld : SLd) (Pr : SPr), va_D A (o_cw ad ca rt Sj T0 T1 Rd Pg Pt Mk Lk Ck Jd Ld Pr)) (n : Nat) (u2_x1 : Int32) (u2_Sj : SSJ) (u2_T0 : STx) (u2_Pg : SPg) (u2_Pt : SPt) (u2_Mk : SMk) (u2_Lk : SLk) (u2_Ck : SCk) (u2_Jd : SJd) (u2_Ld : SLd) (u2_Pr : SPr) (z : Int32 × STx × SRd) (q : Nat × Int32 × STx × SRd) (h : m_Rd_readDigits_b2 n u2_x1 z = some q) (h0 : q.1 = 0 → o_At p l e rm_Rd_readDigits s m args below meth c Q o_cls D A 4 2 [] (o_cw ad ca 12 u2_Sj u2_T0 q.2.2.1 q.2.2.2 u2_Pg u2_Pt u2_Mk u2_Lk u2_Ck u2_Jd u2_Ld u2_Pr) [(0, .ref (ad 23)), (1, .int u2_x1), (2, .int q.2.1)]) (h1 : q.1 ≠ 0 → (if q.1 = 1 then o_At p l e rm_Rd_readDigits s m args below meth c Q o_cls D A 4 19 [] (o_cw ad ca 12 u2_Sj u2_T0 q.2.2.1 q.2.2.2 u2_Pg u2_Pt u2_Mk u2_Lk u2_Ck u2_Jd u2_Ld u2_Pr) [(2, .int q.2.1)] else o_At p l e rm_Rd_readDigits s m args below meth c Q o_cls D A 4 48 [] (o_cw ad ca 12 u2_Sj u2_T0 q.2.2.1 q.2.2.2 u2_Pg u2_Pt u2_Mk u2_Lk u2_Ck u2_Jd u2_Ld u2_Pr) [(1, .int u2_x1)])) : o_At p l e rm_Rd_readDigits s m args below meth c Q o_cls D A 4 2 [] (o_cw ad ca 12 u2_Sj u2_T0 z.2.1 z.2.2 u2_Pg u2_Pt u2_Mk u2_Lk u2_Ck u2_Jd u2_Ld u2_Pr) [(0, .ref (ad 23)), (1, .int u2_x1), (2, .int z.1)] := by
  unfold m_Rd_readDigits_b2 at h
  intro H locs ls hP hS hl
  have C0 := C
  obtain ⟨hx, hb, -, -, -, hown, hts, hK, -, -⟩ := C0
  refine lv_iload_n hx hb d_Rd_readDigits_2 rfl (lv_at hl 2 rfl) ?_
  refine lv_iload_n hx hb d_Rd_readDigits_3 rfl (lv_at hl 1 rfl) ?_
  refine lv_icmp_ge (tgt := 48) hx hb d_Rd_readDigits_4 (by decide) (fun c1 => ?_) (fun c1 => ?_)
  · replace h := o_tt c1 h
    cases h
    exact h1 (Nat.succ_ne_zero 1) _ _ _ hP hS (lv_sub hl [1] rfl)
  · replace h := o_ff c1 h
    refine lv_aload_n hx hb d_Rd_readDigits_7 rfl (lv_at hl 0 rfl) ?_
    obtain ⟨q1, hq1, h⟩ := o_bd_some h
    refine o_V (st1 := [.int q1]) (w1 := (o_cw ad ca 12 u2_Sj u2_T0 z.2.1 z.2.2 u2_Pg u2_Pt u2_Mk u2_Lk u2_Ck u2_Jd u2_Ld u2_Pr)) hE.1 C (c_Rd_peek hE l z.2.2 u2_Sj u2_T0 z.2.1 u2_Pg u2_Pt u2_Mk u2_Lk u2_Ck u2_Jd u2_Ld u2_Pr 12 hq1) hP (hDD _ _ _ _ _ _ _ _ _ _ _ _ _) hS hl.1 rfl cw_23 k_3_38 k_3_40 k_s_3 k_1_3 k_3_41 hv_Rd_peek rfl rfl ⟨(Nat.le_of_ble_eq_true rfl), (Nat.le_of_ble_eq_true rfl)⟩ rfl (Nat.le_of_ble_eq_true rfl) ⟨Nat.zero_le _, Nat.zero_le _⟩ rfl d_Rd_readDigits_8 (fun H locs hP hS => ?_)
    refine lv_istore_n (lv' := [(3, .int q1), (0, .ref (ad 23)), (1, .int u2_x1), (2, .int z.1)]) hx hb d_Rd_readDigits_11 rfl hl (by decide) rfl (fun ls hl => ?_)
    refine lv_iload_n hx hb d_Rd_readDigits_12 rfl (lv_at hl 0 rfl) ?_
    obtain ⟨q2, hq2, h⟩ := o_bd_some h
    refine o_SN (st1 := [.int q2]) (w1 := (o_cw ad ca 12 u2_Sj u2_T0 z.2.1 z.2.2 u2_Pg u2_Pt u2_Mk u2_Lk u2_Ck u2_Jd u2_Ld u2_Pr)) hE.1 C (c_SJ_isDigit hE l q1 u2_Sj u2_T0 z.2.1 z.2.2 u2_Pg u2_Pt u2_Mk u2_Lk u2_Ck u2_Jd u2_Ld u2_Pr 12 hq2) hP (hDD _ _ _ _ _ _ _ _ _ _ _ _ _) hS hl.1 (hE.2.1 _ _ _ C.2.2.2.2.2.2.2.2.2 _ nw_4) k_3_46 k_1_1 k_3_47 hs_SJ_isDigit rfl rfl ⟨(Nat.le_of_ble_eq_true rfl), (Nat.le_of_ble_eq_true rfl)⟩ rfl (Nat.le_of_ble_eq_true rfl) ⟨Nat.zero_le _, Nat.zero_le _⟩ rfl d_Rd_readDigits_13 (fun H locs hP hS => ?_)
    refine lv_if_ne (tgt := 21) hx hb d_Rd_readDigits_16 (by decide) (fun c2 => ?_) (fun c2 => ?_)
    · replace h := o_ff c2 h
      refine lv_aload_n hx hb d_Rd_readDigits_21 rfl (lv_at hl 1 rfl) ?_
      refine o_get (v := .ref (ad 12)) C in_Rd hP 23 cw_23 rfl 2 (by decide) k_1_96 rfl rfl d_Rd_readDigits_22 ?_
      refine lv_iload_n hx hb d_Rd_readDigits_25 rfl (lv_at hl 0 rfl) ?_
      refine lv_bipush (v := (48:Int32)) hx hb d_Rd_readDigits_26 (by decide) ?_
      refine lv_isub hx hb d_Rd_readDigits_28 ?_
      obtain ⟨q3, hq3, h⟩ := o_bd_some h
      refine o_V (st1 := []) (w1 := (o_cw ad ca 12 u2_Sj u2_T0 q3 z.2.2 u2_Pg u2_Pt u2_Mk u2_Lk u2_Ck u2_Jd u2_Ld u2_Pr)) hE.1 C (c_Tx_addDigit_1 hE l (q1 - (48:Int32)) z.2.1 u2_Sj u2_T0 z.2.2 u2_Pg u2_Pt u2_Mk u2_Lk u2_Ck u2_Jd u2_Ld u2_Pr 12 hq3) hP (hDD _ _ _ _ _ _ _ _ _ _ _ _ _) hS hl.1 rfl cw_12 k_3_119 k_3_120 k_3_121 k_1_2 k_3_122 hv_Tx_addDigit rfl rfl ⟨(Nat.le_of_ble_eq_true rfl), (Nat.le_of_ble_eq_true rfl)⟩ rfl (Nat.le_of_ble_eq_true rfl) ⟨Nat.zero_le _, Nat.zero_le _⟩ rfl d_Rd_readDigits_29 (fun H locs hP hS => ?_)
      refine lv_aload_n hx hb d_Rd_readDigits_32 rfl (lv_at hl 1 rfl) ?_
      refine lv_dup hx hb d_Rd_readDigits_33 rfl ?_
      refine o_get (v := .int (Rd_position z.2.2)) C in_Rd hP 23 cw_23 rfl 3 (by decide) k_1_97 rfl rfl d_Rd_readDigits_34 ?_
      refine lv_iconst (v := (1:Int32)) hx hb d_Rd_readDigits_37 (by decide) ?_
      refine lv_iadd hx hb d_Rd_readDigits_38 ?_
      refine o_put (v := .int ((Rd_position z.2.2) + (1:Int32))) (ty := .int) (w1 := (o_cw ad ca 12 u2_Sj u2_T0 q3 (Rd_mk (Rd_words z.2.2) (Rd_wordCount z.2.2) ((Rd_position z.2.2) + (1:Int32)) (Rd_limit z.2.2) (Rd_wrongPlace z.2.2)) u2_Pg u2_Pt u2_Mk u2_Lk u2_Ck u2_Jd u2_Ld u2_Pr)) C in_Rd t_Rd t_Rd_ok n_Rd hP (hDD _ _ _ _ _ _ _ _ _ _ _ _ _) hS 23 cw_23 rfl 3 (by decide) k_1_97 rfl rfl (by decide +kernel) rfl rfl (Nat.le_of_ble_eq_true rfl) rfl d_Rd_readDigits_39 (fun H locs hP hS => ?_)
      obtain ⟨x2_42, ex2_42⟩ : ∃ y : Int32, y = z.1 + (1:Int32) := ⟨_, rfl⟩
      replace h := o_nm_at ex2_42 h
      refine lv_iinc (v := x2_42) (lv' := [(2, .int x2_42), (3, .int q1), (0, .ref (ad 23)), (1, .int u2_x1)]) hx hb d_Rd_readDigits_42 hl (k := 3) rfl (by rw [ex2_42]; rfl) (by decide) rfl (fun ls hl => ?_)
      refine lv_goto (tgt := 2) hx hb d_Rd_readDigits_45 (by decide) ?_
      cases h
      exact h0 rfl _ _ _ hP hS (lv_sub hl [2, 3, 0] rfl)
    · replace h := o_tt c2 h
      cases h
      exact h1 (Nat.succ_ne_zero 0) _ _ _ hP hS (lv_sub hl [3] rfl)
set_option maxHeartbeats 4000000 in
set_option maxRecDepth 100000 in
theorem c_Rd_readDigits_1 {E : (Nat → Prop) → State → Heap → Prop} {D : va_G} {ad kd sd vd xd : Nat → Nat} {ca : Nat → ClassId} (hE : o_EK E kd sd vd xd) (l : Launch) (n : Nat) (x1 : Int32) (tc : STx) (Rd : SRd) (Sj : SSJ) (T0 : STx) (Pg : SPg) (Pt : SPt) (Mk : SMk) (Lk : SLk) (Ck : SCk) (Jd : SJd) (Ld : SLd) (Pr : SPr) {r : Int32 × STx × SRd} (h : m_Rd_readDigits n x1 tc Rd = some r) : o_Cn E l D o_cls (o_tys ca) y_Rd_readDigits cc_Rd_readDigits rm_Rd_readDigits [.ref (ad 23), .int x1] (o_cw ad ca 12 Sj T0 tc Rd Pg Pt Mk Lk Ck Jd Ld Pr) (o_cw ad ca 12 Sj T0 r.2.1 r.2.2 Pg Pt Mk Lk Ck Jd Ld Pr) (some (.int r.1)) := by
  refine o_Cn_of (by decide) (Nat.le_of_ble_eq_true rfl) ?_
  intro p e s m below meth c A ls C hD hP hS hl
  have hDD : ∀ (rt : Nat) (Sj : SSJ) (T0 : STx) (T1 : STx) (Rd : SRd) (Pg : SPg) (Pt : SPt) (Mk : SMk) (Lk : SLk) (Ck : SCk) (Jd : SJd) (Ld : SLd) (Pr : SPr), va_D A (o_cw ad ca rt Sj T0 T1 Rd Pg Pt Mk Lk Ck Jd Ld Pr) := fun _ _ _ _ _ _ _ _ _ _ _ _ _ => o_D_map hD rfl
  have hl : lv_has ls 4 [(0, .ref (ad 23)), (1, .int x1)] := hl
  unfold m_Rd_readDigits at h
  have C0 := C
  obtain ⟨hx, hb, -, -, -, hown, hts, hK, -, -⟩ := C0
  refine lv_iconst (v := (0:Int32)) hx hb d_Rd_readDigits_0 (by decide) ?_
  refine lv_istore_n (lv' := [(2, .int (0:Int32)), (0, .ref (ad 23)), (1, .int x1)]) hx hb d_Rd_readDigits_1 rfl hl (by decide) rfl (fun ls hl => ?_)
  obtain ⟨q4, hq4, h⟩ := o_bd_some h
  refine o_sim2 (AH := fun zz => o_At p l e rm_Rd_readDigits s m _ below meth c _ o_cls D A 4 2 [] (o_cw ad ca 12 Sj T0 zz.2.1 zz.2.2 Pg Pt Mk Lk Ck Jd Ld Pr) [(0, .ref (ad 23)), (1, .int x1), (2, .int zz.1)]) (AX := fun qq => if qq.1 = 1 then o_At p l e rm_Rd_readDigits s m _ below meth c _ o_cls D A 4 19 [] (o_cw ad ca 12 Sj T0 qq.2.2.1 qq.2.2.2 Pg Pt Mk Lk Ck Jd Ld Pr) [(2, .int qq.2.1)] else o_At p l e rm_Rd_readDigits s m _ below meth c _ o_cls D A 4 48 [] (o_cw ad ca 12 Sj T0 qq.2.2.1 qq.2.2.2 Pg Pt Mk Lk Ck Jd Ld Pr) [(1, .int x1)]) (fun zz qq h h0 h1 => w_Rd_readDigits_b2_1 hE C hDD n x1 Sj T0 Pg Pt Mk Lk Ck Jd Ld Pr zz qq h h0 h1) n _ q4 hq4 ?_ _ _ _ hP hS (lv_sub hl [1, 2, 0] rfl)
  by_cases c3 : q4.1 = 1
  · replace h := o_tt c3 h
    refine o_ip c3 ?_
    intro H locs ls hP hS hl
    refine lv_iload_n hx hb d_Rd_readDigits_19 rfl (lv_at hl 0 rfl) ?_
    cases h
    exact o_ri C hP hS d_Rd_readDigits_20
  replace h := o_ff c3 h
  refine o_in_ c3 ?_
  intro H locs ls hP hS hl
  refine lv_iload_n hx hb d_Rd_readDigits_48 rfl (lv_at hl 0 rfl) ?_
  cases h
  exact o_ri C hP hS d_Rd_readDigits_49
set_option maxHeartbeats 4000000 in
set_option maxRecDepth 100000 in
theorem w_Tx_endNumber_b27_0 {E : (Nat → Prop) → State → Heap → Prop} {p : Program} {l : Launch} {e : Env} {s : State} {m : MethodId} {args : Array Value} {below : List Frame} {meth : Method} {c : Code} {D : va_G} {ad kd sd vd xd : Nat → Nat} {ca : Nat → ClassId} {A : Nat → Prop} {Q : State → Prop} (hE : o_EK E kd sd vd xd) (C : o_Cx E p s m args meth c D o_cls (o_tys ca) "SchemaJudge$Text" b_Tx_endNumber none 6 cc_Tx_endNumber A) (hDD : ∀ (rt : Nat) (Sj : SSJ) (T0 : STx) (T1 : STx) (Rd : SRd) (Pg : SPg) (Pt : SPt) (Mk : SMk) (Lk : SLk) (Ck : SCk) (Jd : SJd) (Ld : SLd) (Pr : SPr), va_D A (o_cw ad ca rt Sj T0 T1 Rd Pg Pt Mk Lk Ck Jd Ld Pr)) (n : Nat) (u27_x1 : Int32) (u27_x2 : Int32) (u27_x3 : Int32) (u27_x4 : Int32) (u27_a0 : STx) (u27_Sj : SSJ) (u27_T1 : STx) (u27_Rd : SRd) (u27_Pg : SPg) (u27_Pt : SPt) (u27_Mk : SMk) (u27_Lk : SLk) (u27_Ck : SCk) (u27_Jd : SJd) (u27_Ld : SLd) (u27_Pr : SPr) (u27_rt : Nat) (z : Int32) (q : Nat × Int32) (h : m_Tx_endNumber_b27 n u27_x1 u27_x2 u27_x3 u27_x4 u27_a0 z = some q) (h0 : q.1 = 0 → o_At p l e rm_Tx_endNumber s m args below meth c Q o_cls D A 6 27 [] (o_cw ad ca u27_rt u27_Sj u27_a0 u27_T1 u27_Rd u27_Pg u27_Pt u27_Mk u27_Lk u27_Ck u27_Jd u27_Ld u27_Pr) [(0, .ref (ad 1)), (1, .int u27_x1), (2, .int u27_x2), (3, .int u27_x3), (4, .int u27_x4), (5, .int q.2)]) (h1 : q.1 ≠ 0 → (o_At p l e rm_Tx_endNumber s m args below meth c Q o_cls D A 6 52 [] (o_cw ad ca u27_rt u27_Sj u27_a0 u27_T1 u27_Rd u27_Pg u27_Pt u27_Mk u27_Lk u27_Ck u27_Jd u27_Ld u27_Pr) [(0, .ref (ad 1)), (1, .int u27_x1), (2, .int u27_x2), (3, .int u27_x3), (4, .int u27_x4), (5, .int q.2)])) : o_At p l e rm_Tx_endNumber s m args below meth c Q o_cls D A 6 27 [] (o_cw ad ca u27_rt u27_Sj u27_a0 u27_T1 u27_Rd u27_Pg u27_Pt u27_Mk u27_Lk u27_Ck u27_Jd u27_Ld u27_Pr) [(0, .ref (ad 1)), (1, .int u27_x1), (2, .int u27_x2), (3, .int u27_x3), (4, .int u27_x4), (5, .int z)] := by
  unfold m_Tx_endNumber_b27 at h
  intro H locs ls hP hS hl
  have C0 := C
  obtain ⟨hx, hb, -, -, -, hown, hts, hK, -, -⟩ := C0
  refine lv_iload hx hb d_Tx_endNumber_27 (lv_at hl 5 rfl) ?_
  refine lv_iload hx hb d_Tx_endNumber_29 (lv_at hl 4 rfl) ?_
  refine lv_icmp_le (tgt := 52) hx hb d_Tx_endNumber_31 (by decide) (fun c4 => ?_) (fun c4 => ?_)
  · replace h := o_tt c4 h
    cases h
    exact h1 (Nat.succ_ne_zero 0) _ _ _ hP hS (lv_sub hl [0, 1, 2, 3, 4, 5] rfl)
  · replace h := o_ff c4 h
    refine lv_aload_n hx hb d_Tx_endNumber_34 rfl (lv_at hl 0 rfl) ?_
    refine o_get (v := .ref (ad 11)) C in_Tx hP 1 cw_1 rfl 9 (by decide) k_1_55 rfl rfl d_Tx_endNumber_35 ?_
    refine lv_iload hx hb d_Tx_endNumber_38 (lv_at hl 5 rfl) ?_
    refine lv_iconst (v := (1:Int32)) hx hb d_Tx_endNumber_40 (by decide) ?_
    refine lv_isub hx hb d_Tx_endNumber_41 ?_
    obtain ⟨g5, h⟩ := o_gd_some h
    refine o_iald (f := (Tx_cells u27_a0)) C hP 11 9 cw_11 rfl g5 d_Tx_endNumber_42 ?_
    refine lv_if_ne (tgt := 52) hx hb d_Tx_endNumber_43 (by decide) (fun c6 => ?_) (fun c6 => ?_)
    · replace h := o_ff c6 h
      cases h
      exact h1 (Nat.succ_ne_zero 0) _ _ _ hP hS (lv_sub hl [0, 1, 2, 3, 4, 5] rfl)
    · replace h := o_tt c6 h
      obtain ⟨x5_46, ex5_46⟩ : ∃ y : Int32, y = z + (-1:Int32) := ⟨_, rfl⟩
      replace h := o_nm_at ex5_46 h
      refine lv_iinc (v := x5_46) (lv' := [(5, .int x5_46), (0, .ref (ad 1)), (1, .int u27_x1), (2, .int u27_x2), (3, .int u27_x3), (4, .int u27_x4)]) hx hb d_Tx_endNumber_46 hl (k := 5) rfl (by rw [ex5_46]; rfl) (by decide) rfl (fun ls hl => ?_)
      refine lv_goto (tgt := 27) hx hb d_Tx_endNumber_49 (by decide) ?_
      cases h
      exact h0 rfl _ _ _ hP hS (lv_sub hl [1, 2, 3, 4, 5, 0] rfl)
set_option maxHeartbeats 4000000 in
set_option maxRecDepth 100000 in
theorem w_Tx_endNumber_b52_0 {E : (Nat → Prop) → State → Heap → Prop} {p : Program} {l : Launch} {e : Env} {s : State} {m : MethodId} {args : Array Value} {below : List Frame} {meth : Method} {c : Code} {D : va_G} {ad kd sd vd xd : Nat → Nat} {ca : Nat → ClassId} {A : Nat → Prop} {Q : State → Prop} (hE : o_EK E kd sd vd xd) (C : o_Cx E p s m args meth c D o_cls (o_tys ca) "SchemaJudge$Text" b_Tx_endNumber none 6 cc_Tx_endNumber A) (hDD : ∀ (rt : Nat) (Sj : SSJ) (T0 : STx) (T1 : STx) (Rd : SRd) (Pg : SPg) (Pt : SPt) (Mk : SMk) (Lk : SLk) (Ck : SCk) (Jd : SJd) (Ld : SLd) (Pr : SPr), va_D A (o_cw ad ca rt Sj T0 T1 Rd Pg Pt Mk Lk Ck Jd Ld Pr)) (n : Nat) (u52_x1 : Int32) (u52_x2 : Int32) (u52_x3 : Int32) (u52_x5 : Int32) (u52_a0 : STx) (u52_Sj : SSJ) (u52_T1 : STx) (u52_Rd : SRd) (u52_Pg : SPg) (u52_Pt : SPt) (u52_Mk : SMk) (u52_Lk : SLk) (u52_Ck : SCk) (u52_Jd : SJd) (u52_Ld : SLd) (u52_Pr : SPr) (u52_rt : Nat) (z : Int32) (q : Nat × Int32) (h : m_Tx_endNumber_b52 n u52_x1 u52_x2 u52_x3 u52_x5 u52_a0 z = some q) (h0 : q.1 = 0 → o_At p l e rm_Tx_endNumber s m args below meth c Q o_cls D A 6 52 [] (o_cw ad ca u52_rt u52_Sj u52_a0 u52_T1 u52_Rd u52_Pg u52_Pt u52_Mk u52_Lk u52_Ck u52_Jd u52_Ld u52_Pr) [(0, .ref (ad 1)), (1, .int u52_x1), (2, .int u52_x2), (3, .int u52_x3), (4, .int q.2), (5, .int u52_x5)]) (h1 : q.1 ≠ 0 → (o_At p l e rm_Tx_endNumber s m args below meth c Q o_cls D A 6 75 [] (o_cw ad ca u52_rt u52_Sj u52_a0 u52_T1 u52_Rd u52_Pg u52_Pt u52_Mk u52_Lk u52_Ck u52_Jd u52_Ld u52_Pr) [(0, .ref (ad 1)), (1, .int u52_x1), (2, .int u52_x2), (3, .int u52_x3), (4, .int q.2), (5, .int u52_x5)])) : o_At p l e rm_Tx_endNumber s m args below meth c Q o_cls D A 6 52 [] (o_cw ad ca u52_rt u52_Sj u52_a0 u52_T1 u52_Rd u52_Pg u52_Pt u52_Mk u52_Lk u52_Ck u52_Jd u52_Ld u52_Pr) [(0, .ref (ad 1)), (1, .int u52_x1), (2, .int u52_x2), (3, .int u52_x3), (4, .int z), (5, .int u52_x5)] := by
  unfold m_Tx_endNumber_b52 at h
  intro H locs ls hP hS hl
  have C0 := C
  obtain ⟨hx, hb, -, -, -, hown, hts, hK, -, -⟩ := C0
  refine lv_iload hx hb d_Tx_endNumber_52 (lv_at hl 4 rfl) ?_
  refine lv_iload hx hb d_Tx_endNumber_54 (lv_at hl 5 rfl) ?_
  refine lv_icmp_ge (tgt := 75) hx hb d_Tx_endNumber_56 (by decide) (fun c7 => ?_) (fun c7 => ?_)
  · replace h := o_tt c7 h
    cases h
    exact h1 (Nat.succ_ne_zero 0) _ _ _ hP hS (lv_sub hl [0, 1, 2, 3, 4, 5] rfl)
  · replace h := o_ff c7 h
    refine lv_aload_n hx hb d_Tx_endNumber_59 rfl (lv_at hl 0 rfl) ?_
    refine o_get (v := .ref (ad 11)) C in_Tx hP 1 cw_1 rfl 9 (by decide) k_1_55 rfl rfl d_Tx_endNumber_60 ?_
    refine lv_iload hx hb d_Tx_endNumber_63 (lv_at hl 4 rfl) ?_
    obtain ⟨g8, h⟩ := o_gd_some h
    refine o_iald (f := (Tx_cells u52_a0)) C hP 11 9 cw_11 rfl g8 d_Tx_endNumber_65 ?_
    refine lv_if_ne (tgt := 75) hx hb d_Tx_endNumber_66 (by decide) (fun c9 => ?_) (fun c9 => ?_)
    · replace h := o_ff c9 h
      cases h
      exact h1 (Nat.succ_ne_zero 0) _ _ _ hP hS (lv_sub hl [0, 1, 2, 3, 4, 5] rfl)
    · replace h := o_tt c9 h
      obtain ⟨x4_69, ex4_69⟩ : ∃ y : Int32, y = z + (1:Int32) := ⟨_, rfl⟩
      replace h := o_nm_at ex4_69 h
      refine lv_iinc (v := x4_69) (lv' := [(4, .int x4_69), (0, .ref (ad 1)), (1, .int u52_x1), (2, .int u52_x2), (3, .int u52_x3), (5, .int u52_x5)]) hx hb d_Tx_endNumber_69 hl (k := 4) rfl (by rw [ex4_69]; rfl) (by decide) rfl (fun ls hl => ?_)
      refine lv_goto (tgt := 52) hx hb d_Tx_endNumber_72 (by decide) ?_
      cases h
      exact h0 rfl _ _ _ hP hS (lv_sub hl [1, 2, 3, 4, 0, 5] rfl)
set_option maxHeartbeats 4000000 in
set_option maxRecDepth 100000 in
theorem w_Tx_endNumber_j119_0 {E : (Nat → Prop) → State → Heap → Prop} {p : Program} {l : Launch} {e : Env} {s : State} {m : MethodId} {args : Array Value} {below : List Frame} {meth : Method} {c : Code} {D : va_G} {ad kd sd vd xd : Nat → Nat} {ca : Nat → ClassId} {A : Nat → Prop} (hE : o_EK E kd sd vd xd) (C : o_Cx E p s m args meth c D o_cls (o_tys ca) "SchemaJudge$Text" b_Tx_endNumber none 6 cc_Tx_endNumber A) (hDD : ∀ (rt : Nat) (Sj : SSJ) (T0 : STx) (T1 : STx) (Rd : SRd) (Pg : SPg) (Pt : SPt) (Mk : SMk) (Lk : SLk) (Ck : SCk) (Jd : SJd) (Ld : SLd) (Pr : SPr), va_D A (o_cw ad ca rt Sj T0 T1 Rd Pg Pt Mk Lk Ck Jd Ld Pr)) (n : Nat) (x1 : Int32) (x2 : Int32) (x4 : Int32) (x5 : Int32) (y1 : Int32) (y2 : Int32) (a0 : STx) (Sj : SSJ) (T1 : STx) (Rd : SRd) (Pg : SPg) (Pt : SPt) (Mk : SMk) (Lk : SLk) (Ck : SCk) (Jd : SJd) (Ld : SLd) (Pr : SPr) (rt : Nat) {r : STx} (h : m_Tx_endNumber_j119 n x1 x2 x4 x5 y1 y2 a0 = some r) : o_At p l e rm_Tx_endNumber s m args below meth c (MQ below (o_Qx D o_cls none (o_cw ad ca rt Sj r T1 Rd Pg Pt Mk Lk Ck Jd Ld Pr) A) args s 0 0 A) o_cls D A 6 119 [.int y2, .int y1, .ref (ad 6)] (o_cw ad ca rt Sj a0 T1 Rd Pg Pt Mk Lk Ck Jd Ld Pr) [(0, .ref (ad 1)), (1, .int x1), (2, .int x2), (4, .int x4), (5, .int x5)] := by
  unfold m_Tx_endNumber_j119 at h
  intro H locs ls hP hS hl
  have C0 := C
  obtain ⟨hx, hb, -, -, -, hown, hts, hK, -, -⟩ := C0
  obtain ⟨g13, h⟩ := o_gd_some h
  refine o_iast (f := (Tx_exponents a0)) (w1 := (o_cw ad ca rt Sj (Tx_mk (Tx_kinds a0) (Tx_places a0) (Tx_sizes a0) (Tx_parents a0) (upd (Tx_exponents a0) y1.toNatClampNeg y2) (Tx_starts a0) (Tx_afters a0) (Tx_slots a0) (Tx_negatives a0) (Tx_cells a0) (Tx_total a0) (Tx_used a0) (Tx_characters a0)) T1 Rd Pg Pt Mk Lk Ck Jd Ld Pr)) C hP (hDD _ _ _ _ _ _ _ _ _ _ _ _ _) hS 6 4 cw_6 rfl g13 rfl d_Tx_endNumber_119 (fun H locs hP hS => ?_)
  refine lv_aload_n hx hb d_Tx_endNumber_120 rfl (lv_at hl 0 rfl) ?_
  refine o_get (v := .ref (ad 10)) C in_Tx hP 1 cw_1 rfl 8 (by decide) k_1_54 rfl rfl d_Tx_endNumber_121 ?_
  refine lv_iload_n hx hb d_Tx_endNumber_124 rfl (lv_at hl 1 rfl) ?_
  refine lv_iload_n hx hb d_Tx_endNumber_125 rfl (lv_at hl 2 rfl) ?_
  refine lv_if_eq (tgt := 140) hx hb d_Tx_endNumber_126 (by decide) (fun c14 => ?_) (fun c14 => ?_)
  · replace h := o_tt c14 h
    refine lv_iconst (v := (0:Int32)) hx hb d_Tx_endNumber_140 (by decide) ?_
    obtain ⟨g15, h⟩ := o_gd_some h
    refine o_zast (f := (Tx_negatives a0)) (w1 := (o_cw ad ca rt Sj (Tx_mk (Tx_kinds a0) (Tx_places a0) (Tx_sizes a0) (Tx_parents a0) (upd (Tx_exponents a0) y1.toNatClampNeg y2) (Tx_starts a0) (Tx_afters a0) (Tx_slots a0) (upd (Tx_negatives a0) x1.toNatClampNeg (vp_nar .boolean (0:Int32))) (Tx_cells a0) (Tx_total a0) (Tx_used a0) (Tx_characters a0)) T1 Rd Pg Pt Mk Lk Ck Jd Ld Pr)) C hP (hDD _ _ _ _ _ _ _ _ _ _ _ _ _) hS 10 8 cw_10 rfl g15 rfl d_Tx_endNumber_141 (fun H locs hP hS => ?_)
    cases h
    exact o_rv C hP hS d_Tx_endNumber_142
  · replace h := o_ff c14 h
    refine lv_iload hx hb d_Tx_endNumber_129 (lv_at hl 4 rfl) ?_
    refine lv_iload hx hb d_Tx_endNumber_131 (lv_at hl 3 rfl) ?_
    refine lv_icmp_le (tgt := 140) hx hb d_Tx_endNumber_133 (by decide) (fun c16 => ?_) (fun c16 => ?_)
    · replace h := o_tt c16 h
      refine lv_iconst (v := (0:Int32)) hx hb d_Tx_endNumber_140 (by decide) ?_
      obtain ⟨g17, h⟩ := o_gd_some h
      refine o_zast (f := (Tx_negatives a0)) (w1 := (o_cw ad ca rt Sj (Tx_mk (Tx_kinds a0) (Tx_places a0) (Tx_sizes a0) (Tx_parents a0) (upd (Tx_exponents a0) y1.toNatClampNeg y2) (Tx_starts a0) (Tx_afters a0) (Tx_slots a0) (upd (Tx_negatives a0) x1.toNatClampNeg (vp_nar .boolean (0:Int32))) (Tx_cells a0) (Tx_total a0) (Tx_used a0) (Tx_characters a0)) T1 Rd Pg Pt Mk Lk Ck Jd Ld Pr)) C hP (hDD _ _ _ _ _ _ _ _ _ _ _ _ _) hS 10 8 cw_10 rfl g17 rfl d_Tx_endNumber_141 (fun H locs hP hS => ?_)
      cases h
      exact o_rv C hP hS d_Tx_endNumber_142
    · replace h := o_ff c16 h
      refine lv_iconst (v := (1:Int32)) hx hb d_Tx_endNumber_136 (by decide) ?_
      refine lv_goto (tgt := 141) hx hb d_Tx_endNumber_137 (by decide) ?_
      obtain ⟨g18, h⟩ := o_gd_some h
      refine o_zast (f := (Tx_negatives a0)) (w1 := (o_cw ad ca rt Sj (Tx_mk (Tx_kinds a0) (Tx_places a0) (Tx_sizes a0) (Tx_parents a0) (upd (Tx_exponents a0) y1.toNatClampNeg y2) (Tx_starts a0) (Tx_afters a0) (Tx_slots a0) (upd (Tx_negatives a0) x1.toNatClampNeg (vp_nar .boolean (1:Int32))) (Tx_cells a0) (Tx_total a0) (Tx_used a0) (Tx_characters a0)) T1 Rd Pg Pt Mk Lk Ck Jd Ld Pr)) C hP (hDD _ _ _ _ _ _ _ _ _ _ _ _ _) hS 10 8 cw_10 rfl g18 rfl d_Tx_endNumber_141 (fun H locs hP hS => ?_)
      cases h
      exact o_rv C hP hS d_Tx_endNumber_142
set_option maxHeartbeats 4000000 in
set_option maxRecDepth 100000 in
theorem w_Tx_endNumber_j75_0 {E : (Nat → Prop) → State → Heap → Prop} {p : Program} {l : Launch} {e : Env} {s : State} {m : MethodId} {args : Array Value} {below : List Frame} {meth : Method} {c : Code} {D : va_G} {ad kd sd vd xd : Nat → Nat} {ca : Nat → ClassId} {A : Nat → Prop} (hE : o_EK E kd sd vd xd) (C : o_Cx E p s m args meth c D o_cls (o_tys ca) "SchemaJudge$Text" b_Tx_endNumber none 6 cc_Tx_endNumber A) (hDD : ∀ (rt : Nat) (Sj : SSJ) (T0 : STx) (T1 : STx) (Rd : SRd) (Pg : SPg) (Pt : SPt) (Mk : SMk) (Lk : SLk) (Ck : SCk) (Jd : SJd) (Ld : SLd) (Pr : SPr), va_D A (o_cw ad ca rt Sj T0 T1 Rd Pg Pt Mk Lk Ck Jd Ld Pr)) (n : Nat) (x1 : Int32) (x2 : Int32) (x3 : Int32) (x4 : Int32) (x5 : Int32) (a0 : STx) (Sj : SSJ) (T1 : STx) (Rd : SRd) (Pg : SPg) (Pt : SPt) (Mk : SMk) (Lk : SLk) (Ck : SCk) (Jd : SJd) (Ld : SLd) (Pr : SPr) (rt : Nat) {r : STx} (h : m_Tx_endNumber_j75 n x1 x2 x3 x4 x5 a0 = some r) : o_At p l e rm_Tx_endNumber s m args below meth c (MQ below (o_Qx D o_cls none (o_cw ad ca rt Sj r T1 Rd Pg Pt Mk Lk Ck Jd Ld Pr) A) args s 0 0 A) o_cls D A 6 75 [] (o_cw ad ca rt Sj a0 T1 Rd Pg Pt Mk Lk Ck Jd Ld Pr) [(0, .ref (ad 1)), (1, .int x1), (2, .int x2), (3, .int x3), (4, .int x4), (5, .int x5)] := by
  unfold m_Tx_endNumber_j75 at h
  intro H locs ls hP hS hl
  have C0 := C
  obtain ⟨hx, hb, -, -, -, hown, hts, hK, -, -⟩ := C0
  refine lv_aload_n hx hb d_Tx_endNumber_75 rfl (lv_at hl 0 rfl) ?_
  refine o_get (v := .ref (ad 7)) C in_Tx hP 1 cw_1 rfl 5 (by decide) k_1_51 rfl rfl d_Tx_endNumber_76 ?_
  refine lv_iload_n hx hb d_Tx_endNumber_79 rfl (lv_at hl 1 rfl) ?_
  refine lv_iload hx hb d_Tx_endNumber_80 (lv_at hl 4 rfl) ?_
  obtain ⟨g10, h⟩ := o_gd_some h
  refine o_iast (f := (Tx_starts a0)) (w1 := (o_cw ad ca rt Sj (Tx_mk (Tx_kinds a0) (Tx_places a0) (Tx_sizes a0) (Tx_parents a0) (Tx_exponents a0) (upd (Tx_starts a0) x1.toNatClampNeg x4) (Tx_afters a0) (Tx_slots a0) (Tx_negatives a0) (Tx_cells a0) (Tx_total a0) (Tx_used a0) (Tx_characters a0)) T1 Rd Pg Pt Mk Lk Ck Jd Ld Pr)) C hP (hDD _ _ _ _ _ _ _ _ _ _ _ _ _) hS 7 5 cw_7 rfl g10 rfl d_Tx_endNumber_82 (fun H locs hP hS => ?_)
  refine lv_aload_n hx hb d_Tx_endNumber_83 rfl (lv_at hl 0 rfl) ?_
  refine o_get (v := .ref (ad 4)) C in_Tx hP 1 cw_1 rfl 2 (by decide) k_1_48 rfl rfl d_Tx_endNumber_84 ?_
  refine lv_iload_n hx hb d_Tx_endNumber_87 rfl (lv_at hl 1 rfl) ?_
  refine lv_iload hx hb d_Tx_endNumber_88 (lv_at hl 5 rfl) ?_
  refine lv_iload hx hb d_Tx_endNumber_90 (lv_at hl 4 rfl) ?_
  refine lv_isub hx hb d_Tx_endNumber_92 ?_
  obtain ⟨g11, h⟩ := o_gd_some h
  refine o_iast (f := (Tx_sizes a0)) (w1 := (o_cw ad ca rt Sj (Tx_mk (Tx_kinds a0) (Tx_places a0) (upd (Tx_sizes a0) x1.toNatClampNeg (x5 - x4)) (Tx_parents a0) (Tx_exponents a0) (upd (Tx_starts a0) x1.toNatClampNeg x4) (Tx_afters a0) (Tx_slots a0) (Tx_negatives a0) (Tx_cells a0) (Tx_total a0) (Tx_used a0) (Tx_characters a0)) T1 Rd Pg Pt Mk Lk Ck Jd Ld Pr)) C hP (hDD _ _ _ _ _ _ _ _ _ _ _ _ _) hS 4 2 cw_4 rfl g11 rfl d_Tx_endNumber_93 (fun H locs hP hS => ?_)
  refine lv_aload_n hx hb d_Tx_endNumber_94 rfl (lv_at hl 0 rfl) ?_
  refine o_get (v := .ref (ad 6)) C in_Tx hP 1 cw_1 rfl 4 (by decide) k_1_50 rfl rfl d_Tx_endNumber_95 ?_
  refine lv_iload_n hx hb d_Tx_endNumber_98 rfl (lv_at hl 1 rfl) ?_
  refine lv_iload hx hb d_Tx_endNumber_99 (lv_at hl 5 rfl) ?_
  refine lv_iload hx hb d_Tx_endNumber_101 (lv_at hl 4 rfl) ?_
  refine lv_icmp_ne (tgt := 110) hx hb d_Tx_endNumber_103 (by decide) (fun c12 => ?_) (fun c12 => ?_)
  · replace h := o_ff c12 h
    refine lv_iload_n hx hb d_Tx_endNumber_110 rfl (lv_at hl 3 rfl) ?_
    refine lv_aload_n hx hb d_Tx_endNumber_111 rfl (lv_at hl 0 rfl) ?_
    refine o_get (v := .int (Tx_used a0)) C in_Tx hP 1 cw_1 rfl 11 (by decide) k_1_57 rfl rfl d_Tx_endNumber_112 ?_
    refine lv_iadd hx hb d_Tx_endNumber_115 ?_
    refine lv_iload hx hb d_Tx_endNumber_116 (lv_at hl 5 rfl) ?_
    refine lv_isub hx hb d_Tx_endNumber_118 ?_
    exact w_Tx_endNumber_j119_0 hE C hDD n x1 x2 x4 x5 x1 ((x3 + (Tx_used a0)) - x5) (Tx_mk (Tx_kinds a0) (Tx_places a0) (upd (Tx_sizes a0) x1.toNatClampNeg (x5 - x4)) (Tx_parents a0) (Tx_exponents a0) (upd (Tx_starts a0) x1.toNatClampNeg x4) (Tx_afters a0) (Tx_slots a0) (Tx_negatives a0) (Tx_cells a0) (Tx_total a0) (Tx_used a0) (Tx_characters a0)) Sj T1 Rd Pg Pt Mk Lk Ck Jd Ld Pr rt h _ _ _ hP hS (lv_sub hl [0, 1, 2, 4, 5] rfl)
  · replace h := o_tt c12 h
    refine lv_iconst (v := (0:Int32)) hx hb d_Tx_endNumber_106 (by decide) ?_
    refine lv_goto (tgt := 119) hx hb d_Tx_endNumber_107 (by decide) ?_
    exact w_Tx_endNumber_j119_0 hE C hDD n x1 x2 x4 x5 x1 (0:Int32) (Tx_mk (Tx_kinds a0) (Tx_places a0) (upd (Tx_sizes a0) x1.toNatClampNeg (x5 - x4)) (Tx_parents a0) (Tx_exponents a0) (upd (Tx_starts a0) x1.toNatClampNeg x4) (Tx_afters a0) (Tx_slots a0) (Tx_negatives a0) (Tx_cells a0) (Tx_total a0) (Tx_used a0) (Tx_characters a0)) Sj T1 Rd Pg Pt Mk Lk Ck Jd Ld Pr rt h _ _ _ hP hS (lv_sub hl [0, 1, 2, 4, 5] rfl)
set_option maxHeartbeats 4000000 in
set_option maxRecDepth 100000 in
theorem c_Tx_endNumber_0 {E : (Nat → Prop) → State → Heap → Prop} {D : va_G} {ad kd sd vd xd : Nat → Nat} {ca : Nat → ClassId} (hE : o_EK E kd sd vd xd) (l : Launch) (n : Nat) (x1 : Int32) (x2 : Int32) (x3 : Int32) (a0 : STx) (Sj : SSJ) (T1 : STx) (Rd : SRd) (Pg : SPg) (Pt : SPt) (Mk : SMk) (Lk : SLk) (Ck : SCk) (Jd : SJd) (Ld : SLd) (Pr : SPr) (rt : Nat) {r : STx} (h : m_Tx_endNumber n x1 x2 x3 a0 = some r) : o_Cn E l D o_cls (o_tys ca) y_Tx_endNumber cc_Tx_endNumber rm_Tx_endNumber [.ref (ad 1), .int x1, .int x2, .int x3] (o_cw ad ca rt Sj a0 T1 Rd Pg Pt Mk Lk Ck Jd Ld Pr) (o_cw ad ca rt Sj r T1 Rd Pg Pt Mk Lk Ck Jd Ld Pr) none := by
  refine o_Cn_of (by decide) (Nat.le_of_ble_eq_true rfl) ?_
  intro p e s m below meth c A ls C hD hP hS hl
  have hDD : ∀ (rt : Nat) (Sj : SSJ) (T0 : STx) (T1 : STx) (Rd : SRd) (Pg : SPg) (Pt : SPt) (Mk : SMk) (Lk : SLk) (Ck : SCk) (Jd : SJd) (Ld : SLd) (Pr : SPr), va_D A (o_cw ad ca rt Sj T0 T1 Rd Pg Pt Mk Lk Ck Jd Ld Pr) := fun _ _ _ _ _ _ _ _ _ _ _ _ _ => o_D_map hD rfl
  have hl : lv_has ls 6 [(0, .ref (ad 1)), (1, .int x1), (2, .int x2), (3, .int x3)] := hl
  unfold m_Tx_endNumber at h
  have C0 := C
  obtain ⟨hx, hb, -, -, -, hown, hts, hK, -, -⟩ := C0
  refine lv_iload_n hx hb d_Tx_endNumber_0 rfl (lv_at hl 1 rfl) ?_
  refine lv_if_lt (tgt := 12) hx hb d_Tx_endNumber_1 (by decide) (fun c1 => ?_) (fun c1 => ?_)
  · replace h := o_tt c1 h
    cases h
    exact o_rv C hP hS d_Tx_endNumber_12
  · replace h := o_ff c1 h
    refine lv_iload_n hx hb d_Tx_endNumber_4 rfl (lv_at hl 1 rfl) ?_
    refine lv_aload_n hx hb d_Tx_endNumber_5 rfl (lv_at hl 0 rfl) ?_
    refine o_get (v := .int (Tx_total a0)) C in_Tx hP 1 cw_1 rfl 10 (by decide) k_1_56 rfl rfl d_Tx_endNumber_6 ?_
    refine lv_icmp_lt (tgt := 13) hx hb d_Tx_endNumber_9 (by decide) (fun c2 => ?_) (fun c2 => ?_)
    · replace h := o_tt c2 h
      refine lv_aload_n hx hb d_Tx_endNumber_13 rfl (lv_at hl 0 rfl) ?_
      refine o_get (v := .ref (ad 7)) C in_Tx hP 1 cw_1 rfl 5 (by decide) k_1_51 rfl rfl d_Tx_endNumber_14 ?_
      refine lv_iload_n hx hb d_Tx_endNumber_17 rfl (lv_at hl 1 rfl) ?_
      obtain ⟨g3, h⟩ := o_gd_some h
      refine o_iald (f := (Tx_starts a0)) C hP 7 5 cw_7 rfl g3 d_Tx_endNumber_18 ?_
      refine lv_topi (fun x4_19 ex4_19 => ?_)
      replace h := o_nm_at ex4_19 h
      refine lv_istore (lv' := [(4, .int x4_19), (0, .ref (ad 1)), (1, .int x1), (2, .int x2), (3, .int x3)]) hx hb d_Tx_endNumber_19 hl (by decide) rfl (fun ls hl => ?_)
      refine lv_aload_n hx hb d_Tx_endNumber_21 rfl (lv_at hl 1 rfl) ?_
      refine o_get (v := .int (Tx_used a0)) C in_Tx hP 1 cw_1 rfl 11 (by decide) k_1_57 rfl rfl d_Tx_endNumber_22 ?_
      refine lv_topi (fun x5_25 ex5_25 => ?_)
      replace h := o_nm_at ex5_25 h
      refine lv_istore (lv' := [(5, .int x5_25), (4, .int x4_19), (0, .ref (ad 1)), (1, .int x1), (2, .int x2), (3, .int x3)]) hx hb d_Tx_endNumber_25 hl (by decide) rfl (fun ls hl => ?_)
      obtain ⟨q1, hq1, h⟩ := o_bd_some h
      refine o_sim2 (AH := fun zz => o_At p l e rm_Tx_endNumber s m _ below meth c _ o_cls D A 6 27 [] (o_cw ad ca rt Sj a0 T1 Rd Pg Pt Mk Lk Ck Jd Ld Pr) [(0, .ref (ad 1)), (1, .int x1), (2, .int x2), (3, .int x3), (4, .int x4_19), (5, .int zz)]) (AX := fun qq => o_At p l e rm_Tx_endNumber s m _ below meth c _ o_cls D A 6 52 [] (o_cw ad ca rt Sj a0 T1 Rd Pg Pt Mk Lk Ck Jd Ld Pr) [(0, .ref (ad 1)), (1, .int x1), (2, .int x2), (3, .int x3), (4, .int x4_19), (5, .int qq.2)]) (fun zz qq h h0 h1 => w_Tx_endNumber_b27_0 hE C hDD n x1 x2 x3 x4_19 a0 Sj T1 Rd Pg Pt Mk Lk Ck Jd Ld Pr rt zz qq h h0 h1) n _ q1 hq1 ?_ _ _ _ hP hS (lv_sub hl [2, 3, 4, 5, 1, 0] rfl)
      intro H locs ls hP hS hl
      obtain ⟨q2, hq2, h⟩ := o_bd_some h
      refine o_sim2 (AH := fun zz => o_At p l e rm_Tx_endNumber s m _ below meth c _ o_cls D A 6 52 [] (o_cw ad ca rt Sj a0 T1 Rd Pg Pt Mk Lk Ck Jd Ld Pr) [(0, .ref (ad 1)), (1, .int x1), (2, .int x2), (3, .int x3), (4, .int zz), (5, .int q1.2)]) (AX := fun qq => o_At p l e rm_Tx_endNumber s m _ below meth c _ o_cls D A 6 75 [] (o_cw ad ca rt Sj a0 T1 Rd Pg Pt Mk Lk Ck Jd Ld Pr) [(0, .ref (ad 1)), (1, .int x1), (2, .int x2), (3, .int x3), (4, .int qq.2), (5, .int q1.2)]) (fun zz qq h h0 h1 => w_Tx_endNumber_b52_0 hE C hDD n x1 x2 x3 q1.2 a0 Sj T1 Rd Pg Pt Mk Lk Ck Jd Ld Pr rt zz qq h h0 h1) n _ q2 hq2 ?_ _ _ _ hP hS (lv_sub hl [0, 1, 2, 3, 4, 5] rfl)
      intro H locs ls hP hS hl
      exact w_Tx_endNumber_j75_0 hE C hDD n x1 x2 x3 q2.2 q1.2 a0 Sj T1 Rd Pg Pt Mk Lk Ck Jd Ld Pr rt h _ _ _ hP hS (lv_sub hl [0, 1, 2, 3, 4, 5] rfl)
    · replace h := o_ff c2 h
      cases h
      exact o_rv C hP hS d_Tx_endNumber_12
set_option maxHeartbeats 4000000 in
set_option maxRecDepth 100000 in
theorem w_Tx_endNumber_b27_1 {E : (Nat → Prop) → State → Heap → Prop} {p : Program} {l : Launch} {e : Env} {s : State} {m : MethodId} {args : Array Value} {below : List Frame} {meth : Method} {c : Code} {D : va_G} {ad kd sd vd xd : Nat → Nat} {ca : Nat → ClassId} {A : Nat → Prop} {Q : State → Prop} (hE : o_EK E kd sd vd xd) (C : o_Cx E p s m args meth c D o_cls (o_tys ca) "SchemaJudge$Text" b_Tx_endNumber none 6 cc_Tx_endNumber A) (hDD : ∀ (rt : Nat) (Sj : SSJ) (T0 : STx) (T1 : STx) (Rd : SRd) (Pg : SPg) (Pt : SPt) (Mk : SMk) (Lk : SLk) (Ck : SCk) (Jd : SJd) (Ld : SLd) (Pr : SPr), va_D A (o_cw ad ca rt Sj T0 T1 Rd Pg Pt Mk Lk Ck Jd Ld Pr)) (n : Nat) (u27_x1 : Int32) (u27_x2 : Int32) (u27_x3 : Int32) (u27_x4 : Int32) (u27_a0 : STx) (u27_Sj : SSJ) (u27_T0 : STx) (u27_Rd : SRd) (u27_Pg : SPg) (u27_Pt : SPt) (u27_Mk : SMk) (u27_Lk : SLk) (u27_Ck : SCk) (u27_Jd : SJd) (u27_Ld : SLd) (u27_Pr : SPr) (u27_rt : Nat) (z : Int32) (q : Nat × Int32) (h : m_Tx_endNumber_b27 n u27_x1 u27_x2 u27_x3 u27_x4 u27_a0 z = some q) (h0 : q.1 = 0 → o_At p l e rm_Tx_endNumber s m args below meth c Q o_cls D A 6 27 [] (o_cw ad ca u27_rt u27_Sj u27_T0 u27_a0 u27_Rd u27_Pg u27_Pt u27_Mk u27_Lk u27_Ck u27_Jd u27_Ld u27_Pr) [(0, .ref (ad 12)), (1, .int u27_x1), (2, .int u27_x2), (3, .int u27_x3), (4, .int u27_x4), (5, .int q.2)]) (h1 : q.1 ≠ 0 → (o_At p l e rm_Tx_endNumber s m args below meth c Q o_cls D A 6 52 [] (o_cw ad ca u27_rt u27_Sj u27_T0 u27_a0 u27_Rd u27_Pg u27_Pt u27_Mk u27_Lk u27_Ck u27_Jd u27_Ld u27_Pr) [(0, .ref (ad 12)), (1, .int u27_x1), (2, .int u27_x2), (3, .int u27_x3), (4, .int u27_x4), (5, .int q.2)])) : o_At p l e rm_Tx_endNumber s m args below meth c Q o_cls D A 6 27 [] (o_cw ad ca u27_rt u27_Sj u27_T0 u27_a0 u27_Rd u27_Pg u27_Pt u27_Mk u27_Lk u27_Ck u27_Jd u27_Ld u27_Pr) [(0, .ref (ad 12)), (1, .int u27_x1), (2, .int u27_x2), (3, .int u27_x3), (4, .int u27_x4), (5, .int z)] := by
  unfold m_Tx_endNumber_b27 at h
  intro H locs ls hP hS hl
  have C0 := C
  obtain ⟨hx, hb, -, -, -, hown, hts, hK, -, -⟩ := C0
  refine lv_iload hx hb d_Tx_endNumber_27 (lv_at hl 5 rfl) ?_
  refine lv_iload hx hb d_Tx_endNumber_29 (lv_at hl 4 rfl) ?_
  refine lv_icmp_le (tgt := 52) hx hb d_Tx_endNumber_31 (by decide) (fun c4 => ?_) (fun c4 => ?_)
  · replace h := o_tt c4 h
    cases h
    exact h1 (Nat.succ_ne_zero 0) _ _ _ hP hS (lv_sub hl [0, 1, 2, 3, 4, 5] rfl)
  · replace h := o_ff c4 h
    refine lv_aload_n hx hb d_Tx_endNumber_34 rfl (lv_at hl 0 rfl) ?_
    refine o_get (v := .ref (ad 22)) C in_Tx hP 12 cw_12 rfl 9 (by decide) k_1_55 rfl rfl d_Tx_endNumber_35 ?_
    refine lv_iload hx hb d_Tx_endNumber_38 (lv_at hl 5 rfl) ?_
    refine lv_iconst (v := (1:Int32)) hx hb d_Tx_endNumber_40 (by decide) ?_
    refine lv_isub hx hb d_Tx_endNumber_41 ?_
    obtain ⟨g5, h⟩ := o_gd_some h
    refine o_iald (f := (Tx_cells u27_a0)) C hP 22 19 cw_22 rfl g5 d_Tx_endNumber_42 ?_
    refine lv_if_ne (tgt := 52) hx hb d_Tx_endNumber_43 (by decide) (fun c6 => ?_) (fun c6 => ?_)
    · replace h := o_ff c6 h
      cases h
      exact h1 (Nat.succ_ne_zero 0) _ _ _ hP hS (lv_sub hl [0, 1, 2, 3, 4, 5] rfl)
    · replace h := o_tt c6 h
      obtain ⟨x5_46, ex5_46⟩ : ∃ y : Int32, y = z + (-1:Int32) := ⟨_, rfl⟩
      replace h := o_nm_at ex5_46 h
      refine lv_iinc (v := x5_46) (lv' := [(5, .int x5_46), (0, .ref (ad 12)), (1, .int u27_x1), (2, .int u27_x2), (3, .int u27_x3), (4, .int u27_x4)]) hx hb d_Tx_endNumber_46 hl (k := 5) rfl (by rw [ex5_46]; rfl) (by decide) rfl (fun ls hl => ?_)
      refine lv_goto (tgt := 27) hx hb d_Tx_endNumber_49 (by decide) ?_
      cases h
      exact h0 rfl _ _ _ hP hS (lv_sub hl [1, 2, 3, 4, 5, 0] rfl)
set_option maxHeartbeats 4000000 in
set_option maxRecDepth 100000 in
theorem w_Tx_endNumber_b52_1 {E : (Nat → Prop) → State → Heap → Prop} {p : Program} {l : Launch} {e : Env} {s : State} {m : MethodId} {args : Array Value} {below : List Frame} {meth : Method} {c : Code} {D : va_G} {ad kd sd vd xd : Nat → Nat} {ca : Nat → ClassId} {A : Nat → Prop} {Q : State → Prop} (hE : o_EK E kd sd vd xd) (C : o_Cx E p s m args meth c D o_cls (o_tys ca) "SchemaJudge$Text" b_Tx_endNumber none 6 cc_Tx_endNumber A) (hDD : ∀ (rt : Nat) (Sj : SSJ) (T0 : STx) (T1 : STx) (Rd : SRd) (Pg : SPg) (Pt : SPt) (Mk : SMk) (Lk : SLk) (Ck : SCk) (Jd : SJd) (Ld : SLd) (Pr : SPr), va_D A (o_cw ad ca rt Sj T0 T1 Rd Pg Pt Mk Lk Ck Jd Ld Pr)) (n : Nat) (u52_x1 : Int32) (u52_x2 : Int32) (u52_x3 : Int32) (u52_x5 : Int32) (u52_a0 : STx) (u52_Sj : SSJ) (u52_T0 : STx) (u52_Rd : SRd) (u52_Pg : SPg) (u52_Pt : SPt) (u52_Mk : SMk) (u52_Lk : SLk) (u52_Ck : SCk) (u52_Jd : SJd) (u52_Ld : SLd) (u52_Pr : SPr) (u52_rt : Nat) (z : Int32) (q : Nat × Int32) (h : m_Tx_endNumber_b52 n u52_x1 u52_x2 u52_x3 u52_x5 u52_a0 z = some q) (h0 : q.1 = 0 → o_At p l e rm_Tx_endNumber s m args below meth c Q o_cls D A 6 52 [] (o_cw ad ca u52_rt u52_Sj u52_T0 u52_a0 u52_Rd u52_Pg u52_Pt u52_Mk u52_Lk u52_Ck u52_Jd u52_Ld u52_Pr) [(0, .ref (ad 12)), (1, .int u52_x1), (2, .int u52_x2), (3, .int u52_x3), (4, .int q.2), (5, .int u52_x5)]) (h1 : q.1 ≠ 0 → (o_At p l e rm_Tx_endNumber s m args below meth c Q o_cls D A 6 75 [] (o_cw ad ca u52_rt u52_Sj u52_T0 u52_a0 u52_Rd u52_Pg u52_Pt u52_Mk u52_Lk u52_Ck u52_Jd u52_Ld u52_Pr) [(0, .ref (ad 12)), (1, .int u52_x1), (2, .int u52_x2), (3, .int u52_x3), (4, .int q.2), (5, .int u52_x5)])) : o_At p l e rm_Tx_endNumber s m args below meth c Q o_cls D A 6 52 [] (o_cw ad ca u52_rt u52_Sj u52_T0 u52_a0 u52_Rd u52_Pg u52_Pt u52_Mk u52_Lk u52_Ck u52_Jd u52_Ld u52_Pr) [(0, .ref (ad 12)), (1, .int u52_x1), (2, .int u52_x2), (3, .int u52_x3), (4, .int z), (5, .int u52_x5)] := by
  unfold m_Tx_endNumber_b52 at h
  intro H locs ls hP hS hl
  have C0 := C
  obtain ⟨hx, hb, -, -, -, hown, hts, hK, -, -⟩ := C0
  refine lv_iload hx hb d_Tx_endNumber_52 (lv_at hl 4 rfl) ?_
  refine lv_iload hx hb d_Tx_endNumber_54 (lv_at hl 5 rfl) ?_
  refine lv_icmp_ge (tgt := 75) hx hb d_Tx_endNumber_56 (by decide) (fun c7 => ?_) (fun c7 => ?_)
  · replace h := o_tt c7 h
    cases h
    exact h1 (Nat.succ_ne_zero 0) _ _ _ hP hS (lv_sub hl [0, 1, 2, 3, 4, 5] rfl)
  · replace h := o_ff c7 h
    refine lv_aload_n hx hb d_Tx_endNumber_59 rfl (lv_at hl 0 rfl) ?_
    refine o_get (v := .ref (ad 22)) C in_Tx hP 12 cw_12 rfl 9 (by decide) k_1_55 rfl rfl d_Tx_endNumber_60 ?_
    refine lv_iload hx hb d_Tx_endNumber_63 (lv_at hl 4 rfl) ?_
    obtain ⟨g8, h⟩ := o_gd_some h
    refine o_iald (f := (Tx_cells u52_a0)) C hP 22 19 cw_22 rfl g8 d_Tx_endNumber_65 ?_
    refine lv_if_ne (tgt := 75) hx hb d_Tx_endNumber_66 (by decide) (fun c9 => ?_) (fun c9 => ?_)
    · replace h := o_ff c9 h
      cases h
      exact h1 (Nat.succ_ne_zero 0) _ _ _ hP hS (lv_sub hl [0, 1, 2, 3, 4, 5] rfl)
    · replace h := o_tt c9 h
      obtain ⟨x4_69, ex4_69⟩ : ∃ y : Int32, y = z + (1:Int32) := ⟨_, rfl⟩
      replace h := o_nm_at ex4_69 h
      refine lv_iinc (v := x4_69) (lv' := [(4, .int x4_69), (0, .ref (ad 12)), (1, .int u52_x1), (2, .int u52_x2), (3, .int u52_x3), (5, .int u52_x5)]) hx hb d_Tx_endNumber_69 hl (k := 4) rfl (by rw [ex4_69]; rfl) (by decide) rfl (fun ls hl => ?_)
      refine lv_goto (tgt := 52) hx hb d_Tx_endNumber_72 (by decide) ?_
      cases h
      exact h0 rfl _ _ _ hP hS (lv_sub hl [1, 2, 3, 4, 0, 5] rfl)
set_option maxHeartbeats 4000000 in
set_option maxRecDepth 100000 in
theorem w_Tx_endNumber_j119_1 {E : (Nat → Prop) → State → Heap → Prop} {p : Program} {l : Launch} {e : Env} {s : State} {m : MethodId} {args : Array Value} {below : List Frame} {meth : Method} {c : Code} {D : va_G} {ad kd sd vd xd : Nat → Nat} {ca : Nat → ClassId} {A : Nat → Prop} (hE : o_EK E kd sd vd xd) (C : o_Cx E p s m args meth c D o_cls (o_tys ca) "SchemaJudge$Text" b_Tx_endNumber none 6 cc_Tx_endNumber A) (hDD : ∀ (rt : Nat) (Sj : SSJ) (T0 : STx) (T1 : STx) (Rd : SRd) (Pg : SPg) (Pt : SPt) (Mk : SMk) (Lk : SLk) (Ck : SCk) (Jd : SJd) (Ld : SLd) (Pr : SPr), va_D A (o_cw ad ca rt Sj T0 T1 Rd Pg Pt Mk Lk Ck Jd Ld Pr)) (n : Nat) (x1 : Int32) (x2 : Int32) (x4 : Int32) (x5 : Int32) (y1 : Int32) (y2 : Int32) (a0 : STx) (Sj : SSJ) (T0 : STx) (Rd : SRd) (Pg : SPg) (Pt : SPt) (Mk : SMk) (Lk : SLk) (Ck : SCk) (Jd : SJd) (Ld : SLd) (Pr : SPr) (rt : Nat) {r : STx} (h : m_Tx_endNumber_j119 n x1 x2 x4 x5 y1 y2 a0 = some r) : o_At p l e rm_Tx_endNumber s m args below meth c (MQ below (o_Qx D o_cls none (o_cw ad ca rt Sj T0 r Rd Pg Pt Mk Lk Ck Jd Ld Pr) A) args s 0 0 A) o_cls D A 6 119 [.int y2, .int y1, .ref (ad 17)] (o_cw ad ca rt Sj T0 a0 Rd Pg Pt Mk Lk Ck Jd Ld Pr) [(0, .ref (ad 12)), (1, .int x1), (2, .int x2), (4, .int x4), (5, .int x5)] := by
  unfold m_Tx_endNumber_j119 at h
  intro H locs ls hP hS hl
  have C0 := C
  obtain ⟨hx, hb, -, -, -, hown, hts, hK, -, -⟩ := C0
  obtain ⟨g13, h⟩ := o_gd_some h
  refine o_iast (f := (Tx_exponents a0)) (w1 := (o_cw ad ca rt Sj T0 (Tx_mk (Tx_kinds a0) (Tx_places a0) (Tx_sizes a0) (Tx_parents a0) (upd (Tx_exponents a0) y1.toNatClampNeg y2) (Tx_starts a0) (Tx_afters a0) (Tx_slots a0) (Tx_negatives a0) (Tx_cells a0) (Tx_total a0) (Tx_used a0) (Tx_characters a0)) Rd Pg Pt Mk Lk Ck Jd Ld Pr)) C hP (hDD _ _ _ _ _ _ _ _ _ _ _ _ _) hS 17 14 cw_17 rfl g13 rfl d_Tx_endNumber_119 (fun H locs hP hS => ?_)
  refine lv_aload_n hx hb d_Tx_endNumber_120 rfl (lv_at hl 0 rfl) ?_
  refine o_get (v := .ref (ad 21)) C in_Tx hP 12 cw_12 rfl 8 (by decide) k_1_54 rfl rfl d_Tx_endNumber_121 ?_
  refine lv_iload_n hx hb d_Tx_endNumber_124 rfl (lv_at hl 1 rfl) ?_
  refine lv_iload_n hx hb d_Tx_endNumber_125 rfl (lv_at hl 2 rfl) ?_
  refine lv_if_eq (tgt := 140) hx hb d_Tx_endNumber_126 (by decide) (fun c14 => ?_) (fun c14 => ?_)
  · replace h := o_tt c14 h
    refine lv_iconst (v := (0:Int32)) hx hb d_Tx_endNumber_140 (by decide) ?_
    obtain ⟨g15, h⟩ := o_gd_some h
    refine o_zast (f := (Tx_negatives a0)) (w1 := (o_cw ad ca rt Sj T0 (Tx_mk (Tx_kinds a0) (Tx_places a0) (Tx_sizes a0) (Tx_parents a0) (upd (Tx_exponents a0) y1.toNatClampNeg y2) (Tx_starts a0) (Tx_afters a0) (Tx_slots a0) (upd (Tx_negatives a0) x1.toNatClampNeg (vp_nar .boolean (0:Int32))) (Tx_cells a0) (Tx_total a0) (Tx_used a0) (Tx_characters a0)) Rd Pg Pt Mk Lk Ck Jd Ld Pr)) C hP (hDD _ _ _ _ _ _ _ _ _ _ _ _ _) hS 21 18 cw_21 rfl g15 rfl d_Tx_endNumber_141 (fun H locs hP hS => ?_)
    cases h
    exact o_rv C hP hS d_Tx_endNumber_142
  · replace h := o_ff c14 h
    refine lv_iload hx hb d_Tx_endNumber_129 (lv_at hl 4 rfl) ?_
    refine lv_iload hx hb d_Tx_endNumber_131 (lv_at hl 3 rfl) ?_
    refine lv_icmp_le (tgt := 140) hx hb d_Tx_endNumber_133 (by decide) (fun c16 => ?_) (fun c16 => ?_)
    · replace h := o_tt c16 h
      refine lv_iconst (v := (0:Int32)) hx hb d_Tx_endNumber_140 (by decide) ?_
      obtain ⟨g17, h⟩ := o_gd_some h
      refine o_zast (f := (Tx_negatives a0)) (w1 := (o_cw ad ca rt Sj T0 (Tx_mk (Tx_kinds a0) (Tx_places a0) (Tx_sizes a0) (Tx_parents a0) (upd (Tx_exponents a0) y1.toNatClampNeg y2) (Tx_starts a0) (Tx_afters a0) (Tx_slots a0) (upd (Tx_negatives a0) x1.toNatClampNeg (vp_nar .boolean (0:Int32))) (Tx_cells a0) (Tx_total a0) (Tx_used a0) (Tx_characters a0)) Rd Pg Pt Mk Lk Ck Jd Ld Pr)) C hP (hDD _ _ _ _ _ _ _ _ _ _ _ _ _) hS 21 18 cw_21 rfl g17 rfl d_Tx_endNumber_141 (fun H locs hP hS => ?_)
      cases h
      exact o_rv C hP hS d_Tx_endNumber_142
    · replace h := o_ff c16 h
      refine lv_iconst (v := (1:Int32)) hx hb d_Tx_endNumber_136 (by decide) ?_
      refine lv_goto (tgt := 141) hx hb d_Tx_endNumber_137 (by decide) ?_
      obtain ⟨g18, h⟩ := o_gd_some h
      refine o_zast (f := (Tx_negatives a0)) (w1 := (o_cw ad ca rt Sj T0 (Tx_mk (Tx_kinds a0) (Tx_places a0) (Tx_sizes a0) (Tx_parents a0) (upd (Tx_exponents a0) y1.toNatClampNeg y2) (Tx_starts a0) (Tx_afters a0) (Tx_slots a0) (upd (Tx_negatives a0) x1.toNatClampNeg (vp_nar .boolean (1:Int32))) (Tx_cells a0) (Tx_total a0) (Tx_used a0) (Tx_characters a0)) Rd Pg Pt Mk Lk Ck Jd Ld Pr)) C hP (hDD _ _ _ _ _ _ _ _ _ _ _ _ _) hS 21 18 cw_21 rfl g18 rfl d_Tx_endNumber_141 (fun H locs hP hS => ?_)
      cases h
      exact o_rv C hP hS d_Tx_endNumber_142
set_option maxHeartbeats 4000000 in
set_option maxRecDepth 100000 in
theorem w_Tx_endNumber_j75_1 {E : (Nat → Prop) → State → Heap → Prop} {p : Program} {l : Launch} {e : Env} {s : State} {m : MethodId} {args : Array Value} {below : List Frame} {meth : Method} {c : Code} {D : va_G} {ad kd sd vd xd : Nat → Nat} {ca : Nat → ClassId} {A : Nat → Prop} (hE : o_EK E kd sd vd xd) (C : o_Cx E p s m args meth c D o_cls (o_tys ca) "SchemaJudge$Text" b_Tx_endNumber none 6 cc_Tx_endNumber A) (hDD : ∀ (rt : Nat) (Sj : SSJ) (T0 : STx) (T1 : STx) (Rd : SRd) (Pg : SPg) (Pt : SPt) (Mk : SMk) (Lk : SLk) (Ck : SCk) (Jd : SJd) (Ld : SLd) (Pr : SPr), va_D A (o_cw ad ca rt Sj T0 T1 Rd Pg Pt Mk Lk Ck Jd Ld Pr)) (n : Nat) (x1 : Int32) (x2 : Int32) (x3 : Int32) (x4 : Int32) (x5 : Int32) (a0 : STx) (Sj : SSJ) (T0 : STx) (Rd : SRd) (Pg : SPg) (Pt : SPt) (Mk : SMk) (Lk : SLk) (Ck : SCk) (Jd : SJd) (Ld : SLd) (Pr : SPr) (rt : Nat) {r : STx} (h : m_Tx_endNumber_j75 n x1 x2 x3 x4 x5 a0 = some r) : o_At p l e rm_Tx_endNumber s m args below meth c (MQ below (o_Qx D o_cls none (o_cw ad ca rt Sj T0 r Rd Pg Pt Mk Lk Ck Jd Ld Pr) A) args s 0 0 A) o_cls D A 6 75 [] (o_cw ad ca rt Sj T0 a0 Rd Pg Pt Mk Lk Ck Jd Ld Pr) [(0, .ref (ad 12)), (1, .int x1), (2, .int x2), (3, .int x3), (4, .int x4), (5, .int x5)] := by
  unfold m_Tx_endNumber_j75 at h
  intro H locs ls hP hS hl
  have C0 := C
  obtain ⟨hx, hb, -, -, -, hown, hts, hK, -, -⟩ := C0
  refine lv_aload_n hx hb d_Tx_endNumber_75 rfl (lv_at hl 0 rfl) ?_
  refine o_get (v := .ref (ad 18)) C in_Tx hP 12 cw_12 rfl 5 (by decide) k_1_51 rfl rfl d_Tx_endNumber_76 ?_
  refine lv_iload_n hx hb d_Tx_endNumber_79 rfl (lv_at hl 1 rfl) ?_
  refine lv_iload hx hb d_Tx_endNumber_80 (lv_at hl 4 rfl) ?_
  obtain ⟨g10, h⟩ := o_gd_some h
  refine o_iast (f := (Tx_starts a0)) (w1 := (o_cw ad ca rt Sj T0 (Tx_mk (Tx_kinds a0) (Tx_places a0) (Tx_sizes a0) (Tx_parents a0) (Tx_exponents a0) (upd (Tx_starts a0) x1.toNatClampNeg x4) (Tx_afters a0) (Tx_slots a0) (Tx_negatives a0) (Tx_cells a0) (Tx_total a0) (Tx_used a0) (Tx_characters a0)) Rd Pg Pt Mk Lk Ck Jd Ld Pr)) C hP (hDD _ _ _ _ _ _ _ _ _ _ _ _ _) hS 18 15 cw_18 rfl g10 rfl d_Tx_endNumber_82 (fun H locs hP hS => ?_)
  refine lv_aload_n hx hb d_Tx_endNumber_83 rfl (lv_at hl 0 rfl) ?_
  refine o_get (v := .ref (ad 15)) C in_Tx hP 12 cw_12 rfl 2 (by decide) k_1_48 rfl rfl d_Tx_endNumber_84 ?_
  refine lv_iload_n hx hb d_Tx_endNumber_87 rfl (lv_at hl 1 rfl) ?_
  refine lv_iload hx hb d_Tx_endNumber_88 (lv_at hl 5 rfl) ?_
  refine lv_iload hx hb d_Tx_endNumber_90 (lv_at hl 4 rfl) ?_
  refine lv_isub hx hb d_Tx_endNumber_92 ?_
  obtain ⟨g11, h⟩ := o_gd_some h
  refine o_iast (f := (Tx_sizes a0)) (w1 := (o_cw ad ca rt Sj T0 (Tx_mk (Tx_kinds a0) (Tx_places a0) (upd (Tx_sizes a0) x1.toNatClampNeg (x5 - x4)) (Tx_parents a0) (Tx_exponents a0) (upd (Tx_starts a0) x1.toNatClampNeg x4) (Tx_afters a0) (Tx_slots a0) (Tx_negatives a0) (Tx_cells a0) (Tx_total a0) (Tx_used a0) (Tx_characters a0)) Rd Pg Pt Mk Lk Ck Jd Ld Pr)) C hP (hDD _ _ _ _ _ _ _ _ _ _ _ _ _) hS 15 12 cw_15 rfl g11 rfl d_Tx_endNumber_93 (fun H locs hP hS => ?_)
  refine lv_aload_n hx hb d_Tx_endNumber_94 rfl (lv_at hl 0 rfl) ?_
  refine o_get (v := .ref (ad 17)) C in_Tx hP 12 cw_12 rfl 4 (by decide) k_1_50 rfl rfl d_Tx_endNumber_95 ?_
  refine lv_iload_n hx hb d_Tx_endNumber_98 rfl (lv_at hl 1 rfl) ?_
  refine lv_iload hx hb d_Tx_endNumber_99 (lv_at hl 5 rfl) ?_
  refine lv_iload hx hb d_Tx_endNumber_101 (lv_at hl 4 rfl) ?_
  refine lv_icmp_ne (tgt := 110) hx hb d_Tx_endNumber_103 (by decide) (fun c12 => ?_) (fun c12 => ?_)
  · replace h := o_ff c12 h
    refine lv_iload_n hx hb d_Tx_endNumber_110 rfl (lv_at hl 3 rfl) ?_
    refine lv_aload_n hx hb d_Tx_endNumber_111 rfl (lv_at hl 0 rfl) ?_
    refine o_get (v := .int (Tx_used a0)) C in_Tx hP 12 cw_12 rfl 11 (by decide) k_1_57 rfl rfl d_Tx_endNumber_112 ?_
    refine lv_iadd hx hb d_Tx_endNumber_115 ?_
    refine lv_iload hx hb d_Tx_endNumber_116 (lv_at hl 5 rfl) ?_
    refine lv_isub hx hb d_Tx_endNumber_118 ?_
    exact w_Tx_endNumber_j119_1 hE C hDD n x1 x2 x4 x5 x1 ((x3 + (Tx_used a0)) - x5) (Tx_mk (Tx_kinds a0) (Tx_places a0) (upd (Tx_sizes a0) x1.toNatClampNeg (x5 - x4)) (Tx_parents a0) (Tx_exponents a0) (upd (Tx_starts a0) x1.toNatClampNeg x4) (Tx_afters a0) (Tx_slots a0) (Tx_negatives a0) (Tx_cells a0) (Tx_total a0) (Tx_used a0) (Tx_characters a0)) Sj T0 Rd Pg Pt Mk Lk Ck Jd Ld Pr rt h _ _ _ hP hS (lv_sub hl [0, 1, 2, 4, 5] rfl)
  · replace h := o_tt c12 h
    refine lv_iconst (v := (0:Int32)) hx hb d_Tx_endNumber_106 (by decide) ?_
    refine lv_goto (tgt := 119) hx hb d_Tx_endNumber_107 (by decide) ?_
    exact w_Tx_endNumber_j119_1 hE C hDD n x1 x2 x4 x5 x1 (0:Int32) (Tx_mk (Tx_kinds a0) (Tx_places a0) (upd (Tx_sizes a0) x1.toNatClampNeg (x5 - x4)) (Tx_parents a0) (Tx_exponents a0) (upd (Tx_starts a0) x1.toNatClampNeg x4) (Tx_afters a0) (Tx_slots a0) (Tx_negatives a0) (Tx_cells a0) (Tx_total a0) (Tx_used a0) (Tx_characters a0)) Sj T0 Rd Pg Pt Mk Lk Ck Jd Ld Pr rt h _ _ _ hP hS (lv_sub hl [0, 1, 2, 4, 5] rfl)
set_option maxHeartbeats 4000000 in
set_option maxRecDepth 100000 in
theorem c_Tx_endNumber_1 {E : (Nat → Prop) → State → Heap → Prop} {D : va_G} {ad kd sd vd xd : Nat → Nat} {ca : Nat → ClassId} (hE : o_EK E kd sd vd xd) (l : Launch) (n : Nat) (x1 : Int32) (x2 : Int32) (x3 : Int32) (a0 : STx) (Sj : SSJ) (T0 : STx) (Rd : SRd) (Pg : SPg) (Pt : SPt) (Mk : SMk) (Lk : SLk) (Ck : SCk) (Jd : SJd) (Ld : SLd) (Pr : SPr) (rt : Nat) {r : STx} (h : m_Tx_endNumber n x1 x2 x3 a0 = some r) : o_Cn E l D o_cls (o_tys ca) y_Tx_endNumber cc_Tx_endNumber rm_Tx_endNumber [.ref (ad 12), .int x1, .int x2, .int x3] (o_cw ad ca rt Sj T0 a0 Rd Pg Pt Mk Lk Ck Jd Ld Pr) (o_cw ad ca rt Sj T0 r Rd Pg Pt Mk Lk Ck Jd Ld Pr) none := by
  refine o_Cn_of (by decide) (Nat.le_of_ble_eq_true rfl) ?_
  intro p e s m below meth c A ls C hD hP hS hl
  have hDD : ∀ (rt : Nat) (Sj : SSJ) (T0 : STx) (T1 : STx) (Rd : SRd) (Pg : SPg) (Pt : SPt) (Mk : SMk) (Lk : SLk) (Ck : SCk) (Jd : SJd) (Ld : SLd) (Pr : SPr), va_D A (o_cw ad ca rt Sj T0 T1 Rd Pg Pt Mk Lk Ck Jd Ld Pr) := fun _ _ _ _ _ _ _ _ _ _ _ _ _ => o_D_map hD rfl
  have hl : lv_has ls 6 [(0, .ref (ad 12)), (1, .int x1), (2, .int x2), (3, .int x3)] := hl
  unfold m_Tx_endNumber at h
  have C0 := C
  obtain ⟨hx, hb, -, -, -, hown, hts, hK, -, -⟩ := C0
  refine lv_iload_n hx hb d_Tx_endNumber_0 rfl (lv_at hl 1 rfl) ?_
  refine lv_if_lt (tgt := 12) hx hb d_Tx_endNumber_1 (by decide) (fun c1 => ?_) (fun c1 => ?_)
  · replace h := o_tt c1 h
    cases h
    exact o_rv C hP hS d_Tx_endNumber_12
  · replace h := o_ff c1 h
    refine lv_iload_n hx hb d_Tx_endNumber_4 rfl (lv_at hl 1 rfl) ?_
    refine lv_aload_n hx hb d_Tx_endNumber_5 rfl (lv_at hl 0 rfl) ?_
    refine o_get (v := .int (Tx_total a0)) C in_Tx hP 12 cw_12 rfl 10 (by decide) k_1_56 rfl rfl d_Tx_endNumber_6 ?_
    refine lv_icmp_lt (tgt := 13) hx hb d_Tx_endNumber_9 (by decide) (fun c2 => ?_) (fun c2 => ?_)
    · replace h := o_tt c2 h
      refine lv_aload_n hx hb d_Tx_endNumber_13 rfl (lv_at hl 0 rfl) ?_
      refine o_get (v := .ref (ad 18)) C in_Tx hP 12 cw_12 rfl 5 (by decide) k_1_51 rfl rfl d_Tx_endNumber_14 ?_
      refine lv_iload_n hx hb d_Tx_endNumber_17 rfl (lv_at hl 1 rfl) ?_
      obtain ⟨g3, h⟩ := o_gd_some h
      refine o_iald (f := (Tx_starts a0)) C hP 18 15 cw_18 rfl g3 d_Tx_endNumber_18 ?_
      refine lv_topi (fun x4_19 ex4_19 => ?_)
      replace h := o_nm_at ex4_19 h
      refine lv_istore (lv' := [(4, .int x4_19), (0, .ref (ad 12)), (1, .int x1), (2, .int x2), (3, .int x3)]) hx hb d_Tx_endNumber_19 hl (by decide) rfl (fun ls hl => ?_)
      refine lv_aload_n hx hb d_Tx_endNumber_21 rfl (lv_at hl 1 rfl) ?_
      refine o_get (v := .int (Tx_used a0)) C in_Tx hP 12 cw_12 rfl 11 (by decide) k_1_57 rfl rfl d_Tx_endNumber_22 ?_
      refine lv_topi (fun x5_25 ex5_25 => ?_)
      replace h := o_nm_at ex5_25 h
      refine lv_istore (lv' := [(5, .int x5_25), (4, .int x4_19), (0, .ref (ad 12)), (1, .int x1), (2, .int x2), (3, .int x3)]) hx hb d_Tx_endNumber_25 hl (by decide) rfl (fun ls hl => ?_)
      obtain ⟨q1, hq1, h⟩ := o_bd_some h
      refine o_sim2 (AH := fun zz => o_At p l e rm_Tx_endNumber s m _ below meth c _ o_cls D A 6 27 [] (o_cw ad ca rt Sj T0 a0 Rd Pg Pt Mk Lk Ck Jd Ld Pr) [(0, .ref (ad 12)), (1, .int x1), (2, .int x2), (3, .int x3), (4, .int x4_19), (5, .int zz)]) (AX := fun qq => o_At p l e rm_Tx_endNumber s m _ below meth c _ o_cls D A 6 52 [] (o_cw ad ca rt Sj T0 a0 Rd Pg Pt Mk Lk Ck Jd Ld Pr) [(0, .ref (ad 12)), (1, .int x1), (2, .int x2), (3, .int x3), (4, .int x4_19), (5, .int qq.2)]) (fun zz qq h h0 h1 => w_Tx_endNumber_b27_1 hE C hDD n x1 x2 x3 x4_19 a0 Sj T0 Rd Pg Pt Mk Lk Ck Jd Ld Pr rt zz qq h h0 h1) n _ q1 hq1 ?_ _ _ _ hP hS (lv_sub hl [2, 3, 4, 5, 1, 0] rfl)
      intro H locs ls hP hS hl
      obtain ⟨q2, hq2, h⟩ := o_bd_some h
      refine o_sim2 (AH := fun zz => o_At p l e rm_Tx_endNumber s m _ below meth c _ o_cls D A 6 52 [] (o_cw ad ca rt Sj T0 a0 Rd Pg Pt Mk Lk Ck Jd Ld Pr) [(0, .ref (ad 12)), (1, .int x1), (2, .int x2), (3, .int x3), (4, .int zz), (5, .int q1.2)]) (AX := fun qq => o_At p l e rm_Tx_endNumber s m _ below meth c _ o_cls D A 6 75 [] (o_cw ad ca rt Sj T0 a0 Rd Pg Pt Mk Lk Ck Jd Ld Pr) [(0, .ref (ad 12)), (1, .int x1), (2, .int x2), (3, .int x3), (4, .int qq.2), (5, .int q1.2)]) (fun zz qq h h0 h1 => w_Tx_endNumber_b52_1 hE C hDD n x1 x2 x3 q1.2 a0 Sj T0 Rd Pg Pt Mk Lk Ck Jd Ld Pr rt zz qq h h0 h1) n _ q2 hq2 ?_ _ _ _ hP hS (lv_sub hl [0, 1, 2, 3, 4, 5] rfl)
      intro H locs ls hP hS hl
      exact w_Tx_endNumber_j75_1 hE C hDD n x1 x2 x3 q2.2 q1.2 a0 Sj T0 Rd Pg Pt Mk Lk Ck Jd Ld Pr rt h _ _ _ hP hS (lv_sub hl [0, 1, 2, 3, 4, 5] rfl)
    · replace h := o_ff c2 h
      cases h
      exact o_rv C hP hS d_Tx_endNumber_12
