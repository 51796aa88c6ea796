set_option maxHeartbeats 4000000 in
set_option maxRecDepth 100000 in
theorem c_SJ_wrong {E : (Nat → Prop) → State → Heap → Prop} {D : va_G} {ad kd sd vd xd : Nat → Nat} {ca : Nat → ClassId} (hE : o_EK E kd sd vd xd) (l : Launch)  (Sj : SSJ) (T0 : STx) (T1 : STx) (Rd : SRd) (Pg : SPg) (Pt : SPt) (Mk : SMk) (Lk : SLk) (Ck : SCk) (Jd : SJd) (Ld : SLd) (Pr : SPr) (rt : Nat) {r : Int32} (h : m_SJ_wrong Sj = some r) : o_Cn E l D o_cls (o_tys ca) y_SJ_wrong cc_SJ_wrong rm_SJ_wrong [.ref (ad 0)] (o_cw ad ca rt Sj T0 T1 Rd Pg Pt Mk Lk Ck Jd Ld Pr) (o_cw ad ca rt Sj T0 T1 Rd Pg Pt Mk Lk Ck Jd Ld Pr) (some (.int r)) := by
  refine o_Cn_of (by decide) (Nat.le_of_ble_eq_true rfl) ?_
  intro p e s m below meth c A ls C hD hP hS hl
  have hDD : ∀ (rt : Nat) (Sj : SSJ) (T0 : STx) (T1 : STx) (Rd : SRd) (Pg : SPg) (Pt : SPt) (Mk : SMk) (Lk : SLk) (Ck : SCk) (Jd : SJd) (Ld : SLd) (Pr : SPr), va_D A (o_cw ad ca rt Sj T0 T1 Rd Pg Pt Mk Lk Ck Jd Ld Pr) := fun _ _ _ _ _ _ _ _ _ _ _ _ _ => o_D_map hD rfl
  have hl : lv_has ls 1 [(0, .ref (ad 0))] := hl
  unfold m_SJ_wrong at h
  have C0 := C
  obtain ⟨hx, hb, -, -, -, hown, hts, hK, -, -⟩ := C0
  refine lv_aload_n hx hb d_SJ_wrong_0 rfl (lv_at hl 0 rfl) ?_
  refine o_get (v := .int (SJ_wrongAt Sj)) C in_SJ hP 0 cw_0 rfl 7 (by decide) k_2_118 rfl rfl d_SJ_wrong_1 ?_
  cases h
  exact o_ri (v := (SJ_wrongAt Sj)) C hP hS d_SJ_wrong_4
set_option maxHeartbeats 4000000 in
set_option maxRecDepth 100000 in
theorem c_SJ_fault {E : (Nat → Prop) → State → Heap → Prop} {D : va_G} {ad kd sd vd xd : Nat → Nat} {ca : Nat → ClassId} (hE : o_EK E kd sd vd xd) (l : Launch)  (Ck : SCk) (Sj : SSJ) (T0 : STx) (T1 : STx) (Rd : SRd) (Pg : SPg) (Pt : SPt) (Mk : SMk) (Lk : SLk) (Jd : SJd) (Ld : SLd) (Pr : SPr) (rt : Nat) {r : Int32} (h : m_SJ_fault Ck = some r) : o_Cn E l D o_cls (o_tys ca) y_SJ_fault cc_SJ_fault rm_SJ_fault [.ref (ad 0)] (o_cw ad ca rt Sj T0 T1 Rd Pg Pt Mk Lk Ck Jd Ld Pr) (o_cw ad ca rt Sj T0 T1 Rd Pg Pt Mk Lk Ck Jd Ld Pr) (some (.int r)) := by
  refine o_Cn_of (by decide) (Nat.le_of_ble_eq_true rfl) ?_
  intro p e s m below meth c A ls C hD hP hS hl
  have hDD : ∀ (rt : Nat) (Sj : SSJ) (T0 : STx) (T1 : STx) (Rd : SRd) (Pg : SPg) (Pt : SPt) (Mk : SMk) (Lk : SLk) (Ck : SCk) (Jd : SJd) (Ld : SLd) (Pr : SPr), va_D A (o_cw ad ca rt Sj T0 T1 Rd Pg Pt Mk Lk Ck Jd Ld Pr) := fun _ _ _ _ _ _ _ _ _ _ _ _ _ => o_D_map hD rfl
  have hl : lv_has ls 1 [(0, .ref (ad 0))] := hl
  unfold m_SJ_fault at h
  have C0 := C
  obtain ⟨hx, hb, -, -, -, hown, hts, hK, -, -⟩ := C0
  refine lv_aload_n hx hb d_SJ_fault_0 rfl (lv_at hl 0 rfl) ?_
  refine o_get (v := .ref (ad 45)) C in_SJ hP 0 cw_0 rfl 5 (by decide) k_2_116 rfl rfl d_SJ_fault_1 ?_
  obtain ⟨q1, hq1, h⟩ := o_bd_some h
  refine o_V (st1 := [.int q1]) (w1 := (o_cw ad ca rt Sj T0 T1 Rd Pg Pt Mk Lk Ck Jd Ld Pr)) hE.1 C (c_Ck_faultyValue hE l Ck Sj T0 T1 Rd Pg Pt Mk Lk Jd Ld Pr rt hq1) hP (hDD _ _ _ _ _ _ _ _ _ _ _ _ _) hS hl.1 rfl cw_45 k_2_144 k_2_145 k_2_146 k_1_7 k_2_147 hv_Ck_faultyValue rfl rfl ⟨(Nat.le_of_ble_eq_true rfl), (Nat.le_of_ble_eq_true rfl)⟩ rfl (Nat.le_of_ble_eq_true rfl) ⟨Nat.zero_le _, Nat.zero_le _⟩ rfl d_SJ_fault_4 (fun H locs hP hS => ?_)
  cases h
  exact o_ri C hP hS d_SJ_fault_7
set_option maxHeartbeats 4000000 in
set_option maxRecDepth 100000 in
theorem c_SJ_pairs {E : (Nat → Prop) → State → Heap → Prop} {D : va_G} {ad kd sd vd xd : Nat → Nat} {ca : Nat → ClassId} (hE : o_EK E kd sd vd xd) (l : Launch)  (Pr : SPr) (Sj : SSJ) (T0 : STx) (T1 : STx) (Rd : SRd) (Pg : SPg) (Pt : SPt) (Mk : SMk) (Lk : SLk) (Ck : SCk) (Jd : SJd) (Ld : SLd) (rt : Nat) {r : Int32} (h : m_SJ_pairs Pr = some r) : o_Cn E l D o_cls (o_tys ca) y_SJ_pairs cc_SJ_pairs rm_SJ_pairs [.ref (ad 0)] (o_cw ad ca rt Sj T0 T1 Rd Pg Pt Mk Lk Ck Jd Ld Pr) (o_cw ad ca rt Sj T0 T1 Rd Pg Pt Mk Lk Ck Jd Ld Pr) (some (.int r)) := by
  refine o_Cn_of (by decide) (Nat.le_of_ble_eq_true rfl) ?_
  intro p e s m below meth c A ls C hD hP hS hl
  have hDD : ∀ (rt : Nat) (Sj : SSJ) (T0 : STx) (T1 : STx) (Rd : SRd) (Pg : SPg) (Pt : SPt) (Mk : SMk) (Lk : SLk) (Ck : SCk) (Jd : SJd) (Ld : SLd) (Pr : SPr), va_D A (o_cw ad ca rt Sj T0 T1 Rd Pg Pt Mk Lk Ck Jd Ld Pr) := fun _ _ _ _ _ _ _ _ _ _ _ _ _ => o_D_map hD rfl
  have hl : lv_has ls 1 [(0, .ref (ad 0))] := hl
  unfold m_SJ_pairs at h
  have C0 := C
  obtain ⟨hx, hb, -, -, -, hown, hts, hK, -, -⟩ := C0
  refine lv_aload_n hx hb d_SJ_pairs_0 rfl (lv_at hl 0 rfl) ?_
  refine o_get (v := .ref (ad 49)) C in_SJ hP 0 cw_0 rfl 6 (by decide) k_2_117 rfl rfl d_SJ_pairs_1 ?_
  obtain ⟨q1, hq1, h⟩ := o_bd_some h
  refine o_V (st1 := [.int q1]) (w1 := (o_cw ad ca rt Sj T0 T1 Rd Pg Pt Mk Lk Ck Jd Ld Pr)) hE.1 C (c_Jd_pairsKept hE l Pr Sj T0 T1 Rd Pg Pt Mk Lk Ck Jd Ld rt hq1) hP (hDD _ _ _ _ _ _ _ _ _ _ _ _ _) hS hl.1 rfl cw_49 k_2_152 k_2_153 k_2_154 k_1_9 k_2_155 hv_Jd_pairsKept rfl rfl ⟨(Nat.le_of_ble_eq_true rfl), (Nat.le_of_ble_eq_true rfl)⟩ rfl (Nat.le_of_ble_eq_true rfl) ⟨Nat.zero_le _, Nat.zero_le _⟩ rfl d_SJ_pairs_4 (fun H locs hP hS => ?_)
  cases h
  exact o_ri C hP hS d_SJ_pairs_7
