set_option maxHeartbeats 4000000 in
set_option maxRecDepth 100000 in
theorem f_MT_wide_b105_a {E : (Nat → Prop) → State → Heap → Prop} {p : Program} {l : Launch} {e : Env} {s : State} {m : MethodId} {args : Array Value} {below : List Frame} {meth : Method} {c : Code} {D : va_G} {ad kd sd vd xd : Nat → Nat} {ca : Nat → ClassId} {A : Nat → Prop} {ky ty : Nat → Option Nat} {Q : State → Prop} (hE : o_EK E kd sd vd xd) (hKy : m_KY ky ty sd) (C : o_Cx E p s m args meth c D m_cls (m_tys ca) "SchemaJudgeModel$Text" b_MT_wide (some .boolean) 6 cc_MT_wide A) (hDD : ∀ (rt : Nat) (Ni : SNI) (Np : SNP) (No : SNO) (Nx : SNX) (Nf : SNF) (Na : SNA) (Nh : SNH) (Nq : SNQ) (Nj : SNJ) (M0 : SMT) (M1 : SMT), va_D A (m_cw ad ca ky ty rt Ni Np No Nx Nf Na Nh Nq Nj M0 M1)) (n : Nat) (u105_x1 : Int32) (u105_x3 : Int32) (u105_a0 : SMT) (u105_Ni : SNI) (u105_Np : SNP) (u105_No : SNO) (u105_Nx : SNX) (u105_Nf : SNF) (u105_Na : SNA) (u105_Nh : SNH) (u105_Nq : SNQ) (u105_Nj : SNJ) (u105_M1 : SMT) (u105_rt : Nat) (z : Int32 × Int32) (q : Nat × Int32 × Int32) (h : m_MT_wide_b105 n u105_x1 u105_x3 u105_a0 z = some q) (h0 : q.1 = 0 → o_At p l e rm_MT_wide s m args below meth c Q m_cls D A 6 105 [] (m_cw ad ca ky ty u105_rt u105_Ni u105_Np u105_No u105_Nx u105_Nf u105_Na u105_Nh u105_Nq u105_Nj u105_a0 u105_M1) [(0, .ref (ad 33)), (1, .int u105_x1), (3, .int u105_x3), (4, .int q.2.1), (5, .int q.2.2)]) (h1 : q.1 ≠ 0 → (if q.1 = 1 then o_At p l e rm_MT_wide s m args below meth c Q m_cls D A 6 131 [] (m_cw ad ca ky ty u105_rt u105_Ni u105_Np u105_No u105_Nx u105_Nf u105_Na u105_Nh u105_Nq u105_Nj u105_a0 u105_M1) [(0, .ref (ad 33)), (1, .int u105_x1)] else o_At p l e rm_MT_wide s m args below meth c Q m_cls D A 6 162 [] (m_cw ad ca ky ty u105_rt u105_Ni u105_Np u105_No u105_Nx u105_Nf u105_Na u105_Nh u105_Nq u105_Nj u105_a0 u105_M1) [(0, .ref (ad 33)), (1, .int u105_x1), (3, .int u105_x3), (4, .int q.2.1)])) : o_At p l e rm_MT_wide s m args below meth c Q m_cls D A 6 105 [] (m_cw ad ca ky ty u105_rt u105_Ni u105_Np u105_No u105_Nx u105_Nf u105_Na u105_Nh u105_Nq u105_Nj u105_a0 u105_M1) [(0, .ref (ad 33)), (1, .int u105_x1), (3, .int u105_x3), (4, .int z.1), (5, .int z.2)] := by
  unfold m_MT_wide_b105 at h
  intro H locs ls hP hS hl
  have C0 := C
  obtain ⟨hx, hb, -, -, -, hown, hts, hK, -, -⟩ := C0
  refine lv_iload hx hb d_MT_wide_105 (lv_at hl 4 rfl) ?_
  refine lv_iload_n hx hb d_MT_wide_107 rfl (lv_at hl 2 rfl) ?_
  refine lv_icmp_gt (tgt := 162) hx hb d_MT_wide_108 (by decide) (fun c7 => ?_) (fun c7 => ?_)
  · replace h := o_tt c7 h
    cases h
    exact h1 (Nat.succ_ne_zero 1) _ _ _ hP hS (lv_sub hl [0, 1, 2, 3] rfl)
  · replace h := o_ff c7 h
    refine lv_aload_n hx hb d_MT_wide_111 rfl (lv_at hl 0 rfl) ?_
    refine lv_iload_n hx hb d_MT_wide_112 rfl (lv_at hl 1 rfl) ?_
    refine lv_iload hx hb d_MT_wide_113 (lv_at hl 4 rfl) ?_
    refine lv_iadd hx hb d_MT_wide_115 ?_
    obtain ⟨q2, hq2, h⟩ := o_bd_some h
    refine o_V (st1 := [.int q2]) (w1 := (m_cw ad ca ky ty u105_rt u105_Ni u105_Np u105_No u105_Nx u105_Nf u105_Na u105_Nh u105_Nq u105_Nj u105_a0 u105_M1)) hE.1 C (e_MT_c_a hE hKy l (u105_x1 + z.2) u105_a0 u105_Ni u105_Np u105_No u105_Nx u105_Nf u105_Na u105_Nh u105_Nq u105_Nj u105_M1 u105_rt hq2) hP (hDD _ _ _ _ _ _ _ _ _ _ _ _) hS hl.1 rfl mw_33 k_8_192 k_8_193 k_8_194 k_1_13 k_8_195 hv_MT_c rfl rfl ⟨(Nat.le_of_ble_eq_true rfl), (Nat.le_of_ble_eq_true rfl)⟩ rfl (Nat.le_of_ble_eq_true rfl) ⟨Nat.zero_le _, Nat.zero_le _⟩ rfl d_MT_wide_116 (fun H locs hP hS => ?_)
    refine lv_sipush (v := (128:Int32)) hx hb d_MT_wide_119 (by decide) ?_
    refine lv_sipush (v := (191:Int32)) hx hb d_MT_wide_122 (by decide) ?_
    obtain ⟨q3, hq3, h⟩ := o_bd_some h
    refine o_SN (st1 := [.int q3]) (w1 := (m_cw ad ca ky ty u105_rt u105_Ni u105_Np u105_No u105_Nx u105_Nf u105_Na u105_Nh u105_Nq u105_Nj u105_a0 u105_M1)) hE.1 C (e_MM_in hE hKy l q2 (128:Int32) (191:Int32) u105_Ni u105_Np u105_No u105_Nx u105_Nf u105_Na u105_Nh u105_Nq u105_Nj u105_a0 u105_M1 u105_rt hq3) hP (hDD _ _ _ _ _ _ _ _ _ _ _ _) hS hl.1 (hE.2.1 _ _ _ C.2.2.2.2.2.2.2.2.2 _ nw_21) k_8_201 k_1_12 k_8_202 hs_MM_in rfl rfl ⟨(Nat.le_of_ble_eq_true rfl), (Nat.le_of_ble_eq_true rfl)⟩ rfl (Nat.le_of_ble_eq_true rfl) ⟨Nat.zero_le _, Nat.zero_le _⟩ rfl d_MT_wide_125 (fun H locs hP hS => ?_)
    refine lv_if_ne (tgt := 137) hx hb d_MT_wide_128 (by decide) (fun c8 => ?_) (fun c8 => ?_)
    · replace h := o_ff c8 h
      refine lv_iload hx hb d_MT_wide_137 (lv_at hl 3 rfl) ?_
      refine lv_bipush (v := (6:Int32)) hx hb d_MT_wide_139 (by decide) ?_
      refine lv_ishl hx hb d_MT_wide_141 ?_
      refine lv_aload_n hx hb d_MT_wide_142 rfl (lv_at hl 0 rfl) ?_
      refine lv_iload_n hx hb d_MT_wide_143 rfl (lv_at hl 1 rfl) ?_
      refine lv_iload hx hb d_MT_wide_144 (lv_at hl 4 rfl) ?_
      refine lv_iadd hx hb d_MT_wide_146 ?_
      obtain ⟨q4, hq4, h⟩ := o_bd_some h
      refine o_V (st1 := [.int q4, .int (z.1 <<< ((6:Int32) &&& 31))]) (w1 := (m_cw ad ca ky ty u105_rt u105_Ni u105_Np u105_No u105_Nx u105_Nf u105_Na u105_Nh u105_Nq u105_Nj u105_a0 u105_M1)) hE.1 C (e_MT_c_a hE hKy l (u105_x1 + z.2) u105_a0 u105_Ni u105_Np u105_No u105_Nx u105_Nf u105_Na u105_Nh u105_Nq u105_Nj u105_M1 u105_rt hq4) hP (hDD _ _ _ _ _ _ _ _ _ _ _ _) hS hl.1 rfl mw_33 k_8_192 k_8_193 k_8_194 k_1_13 k_8_195 hv_MT_c rfl rfl ⟨(Nat.le_of_ble_eq_true rfl), (Nat.le_of_ble_eq_true rfl)⟩ rfl (Nat.le_of_ble_eq_true rfl) ⟨Nat.zero_le _, Nat.zero_le _⟩ rfl d_MT_wide_147 (fun H locs hP hS => ?_)
      refine lv_bipush (v := (63:Int32)) hx hb d_MT_wide_150 (by decide) ?_
      refine lv_iand hx hb d_MT_wide_152 ?_
      refine lv_ior hx hb d_MT_wide_153 ?_
      refine lv_topi (fun x4_154 ex4_154 => ?_)
      replace h := o_nm_at ex4_154 h
      refine lv_istore (lv' := [(4, .int x4_154), (0, .ref (ad 33)), (1, .int u105_x1), (3, .int u105_x3), (5, .int z.2)]) hx hb d_MT_wide_154 hl (by decide) rfl (fun ls hl => ?_)
      obtain ⟨x5_156, ex5_156⟩ : ∃ y : Int32, y = z.2 + (1:Int32) := ⟨_, rfl⟩
      replace h := o_nm_at ex5_156 h
      refine lv_iinc (v := x5_156) (lv' := [(5, .int x5_156), (4, .int x4_154), (0, .ref (ad 33)), (1, .int u105_x1), (3, .int u105_x3)]) hx hb d_MT_wide_156 hl (k := 4) rfl (by rw [ex5_156]; rfl) (by decide) rfl (fun ls hl => ?_)
      refine lv_goto (tgt := 105) hx hb d_MT_wide_159 (by decide) ?_
      cases h
      exact h0 rfl _ _ _ hP hS (lv_sub hl [2, 3, 4, 1, 0] rfl)
    · replace h := o_tt c8 h
      cases h
      exact h1 (Nat.succ_ne_zero 0) _ _ _ hP hS (lv_sub hl [0, 1] rfl)
set_option maxHeartbeats 4000000 in
set_option maxRecDepth 100000 in
theorem f_MT_wide_j210_a {E : (Nat → Prop) → State → Heap → Prop} {p : Program} {l : Launch} {e : Env} {s : State} {m : MethodId} {args : Array Value} {below : List Frame} {meth : Method} {c : Code} {D : va_G} {ad kd sd vd xd : Nat → Nat} {ca : Nat → ClassId} {A : Nat → Prop} {ky ty : Nat → Option Nat} (hE : o_EK E kd sd vd xd) (hKy : m_KY ky ty sd) (C : o_Cx E p s m args meth c D m_cls (m_tys ca) "SchemaJudgeModel$Text" b_MT_wide (some .boolean) 6 cc_MT_wide A) (hDD : ∀ (rt : Nat) (Ni : SNI) (Np : SNP) (No : SNO) (Nx : SNX) (Nf : SNF) (Na : SNA) (Nh : SNH) (Nq : SNQ) (Nj : SNJ) (M0 : SMT) (M1 : SMT), va_D A (m_cw ad ca ky ty rt Ni Np No Nx Nf Na Nh Nq Nj M0 M1)) (n : Nat) (x1 : Int32) (x3 : Int32) (x4 : Int32) (a0 : SMT) (Ni : SNI) (Np : SNP) (No : SNO) (Nx : SNX) (Nf : SNF) (Na : SNA) (Nh : SNH) (Nq : SNQ) (Nj : SNJ) (M1 : SMT) (rt : Nat) {r : Int32 × SMT} (h : m_MT_wide_j210 n x1 x3 x4 a0 = some r) : o_At p l e rm_MT_wide s m args below meth c (MQ below (o_Qx D m_cls (some (.int r.1)) (m_cw ad ca ky ty rt Ni Np No Nx Nf Na Nh Nq Nj r.2 M1) A) args s 0 0 A) m_cls D A 6 210 [] (m_cw ad ca ky ty rt Ni Np No Nx Nf Na Nh Nq Nj a0 M1) [(0, .ref (ad 33)), (1, .int x1), (3, .int x3), (4, .int x4)] := by
  unfold m_MT_wide_j210 at h
  intro H locs ls hP hS hl
  have C0 := C
  obtain ⟨hx, hb, -, -, -, hown, hts, hK, -, -⟩ := C0
  refine lv_aload_n hx hb d_MT_wide_210 rfl (lv_at hl 0 rfl) ?_
  refine lv_dup hx hb d_MT_wide_211 rfl ?_
  refine o_get (v := .int (MT_at a0)) C in_MT hP 33 mw_33 rfl 15 (by decide) k_7_129 rfl rfl d_MT_wide_212 ?_
  refine lv_iload_n hx hb d_MT_wide_215 rfl (lv_at hl 2 rfl) ?_
  refine lv_iconst (v := (1:Int32)) hx hb d_MT_wide_216 (by decide) ?_
  refine lv_iadd hx hb d_MT_wide_217 ?_
  refine lv_iadd hx hb d_MT_wide_218 ?_
  refine o_put (v := .int ((MT_at a0) + (x3 + (1:Int32)))) (ty := .int) (w1 := (m_cw ad ca ky ty rt Ni Np No Nx Nf Na Nh Nq Nj (MT_mk (MT_text a0) (MT_kind a0) (MT_place a0) (MT_many a0) (MT_parent a0) (MT_power a0) (MT_first a0) (MT_next a0) (MT_name a0) (MT_from a0) (MT_characters a0) (MT_digits a0) (MT_minus a0) (MT_values a0) (MT_letters a0) ((MT_at a0) + (x3 + (1:Int32))) (MT_wrong a0) (MT_used a0) (MT_written a0) (MT_left a0)) M1)) C in_MT t_MT t_MT_ok n_MT hP (hDD _ _ _ _ _ _ _ _ _ _ _ _) hS 33 mw_33 rfl 15 (by decide) k_7_129 rfl rfl (by decide +kernel) rfl rfl (Nat.le_of_ble_eq_true rfl) rfl d_MT_wide_219 (fun H locs hP hS => ?_)
  refine lv_aload_n hx hb d_MT_wide_222 rfl (lv_at hl 0 rfl) ?_
  refine lv_iload hx hb d_MT_wide_223 (lv_at hl 3 rfl) ?_
  refine lv_iload_n hx hb d_MT_wide_225 rfl (lv_at hl 1 rfl) ?_
  obtain ⟨q7, hq7, h⟩ := o_bd_some h
  refine o_V (st1 := [.int q7.1]) (w1 := (m_cw ad ca ky ty rt Ni Np No Nx Nf Na Nh Nq Nj q7.2 M1)) hE.1 C (e_MT_put_a hE hKy l x4 x1 (MT_mk (MT_text a0) (MT_kind a0) (MT_place a0) (MT_many a0) (MT_parent a0) (MT_power a0) (MT_first a0) (MT_next a0) (MT_name a0) (MT_from a0) (MT_characters a0) (MT_digits a0) (MT_minus a0) (MT_values a0) (MT_letters a0) ((MT_at a0) + (x3 + (1:Int32))) (MT_wrong a0) (MT_used a0) (MT_written a0) (MT_left a0)) Ni Np No Nx Nf Na Nh Nq Nj M1 rt hq7) hP (hDD _ _ _ _ _ _ _ _ _ _ _ _) hS hl.1 rfl mw_33 k_8_228 k_8_229 k_8_230 k_1_13 k_8_231 hv_MT_put rfl rfl ⟨(Nat.le_of_ble_eq_true rfl), (Nat.le_of_ble_eq_true rfl)⟩ rfl (Nat.le_of_ble_eq_true rfl) ⟨Nat.zero_le _, Nat.zero_le _⟩ rfl d_MT_wide_226 (fun H locs hP hS => ?_)
  obtain ⟨g12, h⟩ := o_gd_some h
  cases h
  exact o_rz C (o_zb_nar g12) hP hS d_MT_wide_229
set_option maxHeartbeats 4000000 in
set_option maxRecDepth 100000 in
theorem f_MT_wide_j204_a {E : (Nat → Prop) → State → Heap → Prop} {p : Program} {l : Launch} {e : Env} {s : State} {m : MethodId} {args : Array Value} {below : List Frame} {meth : Method} {c : Code} {D : va_G} {ad kd sd vd xd : Nat → Nat} {ca : Nat → ClassId} {A : Nat → Prop} {ky ty : Nat → Option Nat} (hE : o_EK E kd sd vd xd) (hKy : m_KY ky ty sd) (C : o_Cx E p s m args meth c D m_cls (m_tys ca) "SchemaJudgeModel$Text" b_MT_wide (some .boolean) 6 cc_MT_wide A) (hDD : ∀ (rt : Nat) (Ni : SNI) (Np : SNP) (No : SNO) (Nx : SNX) (Nf : SNF) (Na : SNA) (Nh : SNH) (Nq : SNQ) (Nj : SNJ) (M0 : SMT) (M1 : SMT), va_D A (m_cw ad ca ky ty rt Ni Np No Nx Nf Na Nh Nq Nj M0 M1)) (n : Nat) (x1 : Int32) (a0 : SMT) (Ni : SNI) (Np : SNP) (No : SNO) (Nx : SNX) (Nf : SNF) (Na : SNA) (Nh : SNH) (Nq : SNQ) (Nj : SNJ) (M1 : SMT) (rt : Nat) {r : Int32 × SMT} (h : m_MT_wide_j204 n x1 a0 = some r) : o_At p l e rm_MT_wide s m args below meth c (MQ below (o_Qx D m_cls (some (.int r.1)) (m_cw ad ca ky ty rt Ni Np No Nx Nf Na Nh Nq Nj r.2 M1) A) args s 0 0 A) m_cls D A 6 204 [] (m_cw ad ca ky ty rt Ni Np No Nx Nf Na Nh Nq Nj a0 M1) [(0, .ref (ad 33)), (1, .int x1)] := by
  unfold m_MT_wide_j204 at h
  intro H locs ls hP hS hl
  have C0 := C
  obtain ⟨hx, hb, -, -, -, hown, hts, hK, -, -⟩ := C0
  refine lv_aload_n hx hb d_MT_wide_204 rfl (lv_at hl 0 rfl) ?_
  refine lv_iload_n hx hb d_MT_wide_205 rfl (lv_at hl 1 rfl) ?_
  obtain ⟨q9, hq9, h⟩ := o_bd_some h
  refine o_V (st1 := [.int q9.1]) (w1 := (m_cw ad ca ky ty rt Ni Np No Nx Nf Na Nh Nq Nj q9.2 M1)) hE.1 C (e_MT_bad_a hE hKy l x1 a0 Ni Np No Nx Nf Na Nh Nq Nj M1 rt hq9) hP (hDD _ _ _ _ _ _ _ _ _ _ _ _) hS hl.1 rfl mw_33 k_8_203 k_8_204 k_8_205 k_1_13 k_8_206 hv_MT_bad rfl rfl ⟨(Nat.le_of_ble_eq_true rfl), (Nat.le_of_ble_eq_true rfl)⟩ rfl (Nat.le_of_ble_eq_true rfl) ⟨Nat.zero_le _, Nat.zero_le _⟩ rfl d_MT_wide_206 (fun H locs hP hS => ?_)
  obtain ⟨g14, h⟩ := o_gd_some h
  cases h
  exact o_rz C (o_zb_nar g14) hP hS d_MT_wide_209
set_option maxHeartbeats 4000000 in
set_option maxRecDepth 100000 in
theorem f_MT_wide_j187_a {E : (Nat → Prop) → State → Heap → Prop} {p : Program} {l : Launch} {e : Env} {s : State} {m : MethodId} {args : Array Value} {below : List Frame} {meth : Method} {c : Code} {D : va_G} {ad kd sd vd xd : Nat → Nat} {ca : Nat → ClassId} {A : Nat → Prop} {ky ty : Nat → Option Nat} (hE : o_EK E kd sd vd xd) (hKy : m_KY ky ty sd) (C : o_Cx E p s m args meth c D m_cls (m_tys ca) "SchemaJudgeModel$Text" b_MT_wide (some .boolean) 6 cc_MT_wide A) (hDD : ∀ (rt : Nat) (Ni : SNI) (Np : SNP) (No : SNO) (Nx : SNX) (Nf : SNF) (Na : SNA) (Nh : SNH) (Nq : SNQ) (Nj : SNJ) (M0 : SMT) (M1 : SMT), va_D A (m_cw ad ca ky ty rt Ni Np No Nx Nf Na Nh Nq Nj M0 M1)) (n : Nat) (x1 : Int32) (x3 : Int32) (x4 : Int32) (a0 : SMT) (Ni : SNI) (Np : SNP) (No : SNO) (Nx : SNX) (Nf : SNF) (Na : SNA) (Nh : SNH) (Nq : SNQ) (Nj : SNJ) (M1 : SMT) (rt : Nat) {r : Int32 × SMT} (h : m_MT_wide_j187 n x1 x3 x4 a0 = some r) : o_At p l e rm_MT_wide s m args below meth c (MQ below (o_Qx D m_cls (some (.int r.1)) (m_cw ad ca ky ty rt Ni Np No Nx Nf Na Nh Nq Nj r.2 M1) A) args s 0 0 A) m_cls D A 6 187 [] (m_cw ad ca ky ty rt Ni Np No Nx Nf Na Nh Nq Nj a0 M1) [(0, .ref (ad 33)), (1, .int x1), (3, .int x3), (4, .int x4)] := by
  unfold m_MT_wide_j187 at h
  intro H locs ls hP hS hl
  have C0 := C
  obtain ⟨hx, hb, -, -, -, hown, hts, hK, -, -⟩ := C0
  refine lv_iload_n hx hb d_MT_wide_187 rfl (lv_at hl 2 rfl) ?_
  refine lv_iconst (v := (3:Int32)) hx hb d_MT_wide_188 (by decide) ?_
  refine lv_icmp_ne (tgt := 210) hx hb d_MT_wide_189 (by decide) (fun c11 => ?_) (fun c11 => ?_)
  · replace h := o_ff c11 h
    exact f_MT_wide_j210_a hE hKy C hDD n x1 x3 x4 a0 Ni Np No Nx Nf Na Nh Nq Nj M1 rt h _ _ _ hP hS (lv_sub hl [0, 1, 2, 3] rfl)
  · replace h := o_tt c11 h
    refine lv_iload hx hb d_MT_wide_192 (lv_at hl 3 rfl) ?_
    refine lv_ldc (v := (65536:Int32)) hx hb hown (hts _ k_9_3) d_MT_wide_194 ?_
    refine lv_ldc (v := (1114111:Int32)) hx hb hown (hts _ k_9_8) d_MT_wide_196 ?_
    obtain ⟨q8, hq8, h⟩ := o_bd_some h
    refine o_SN (st1 := [.int q8]) (w1 := (m_cw ad ca ky ty rt Ni Np No Nx Nf Na Nh Nq Nj a0 M1)) hE.1 C (e_MM_in hE hKy l x4 (65536:Int32) (1114111:Int32) Ni Np No Nx Nf Na Nh Nq Nj a0 M1 rt hq8) hP (hDD _ _ _ _ _ _ _ _ _ _ _ _) hS hl.1 (hE.2.1 _ _ _ C.2.2.2.2.2.2.2.2.2 _ nw_21) k_8_201 k_1_12 k_8_202 hs_MM_in rfl rfl ⟨(Nat.le_of_ble_eq_true rfl), (Nat.le_of_ble_eq_true rfl)⟩ rfl (Nat.le_of_ble_eq_true rfl) ⟨Nat.zero_le _, Nat.zero_le _⟩ rfl d_MT_wide_198 (fun H locs hP hS => ?_)
    refine lv_if_ne (tgt := 210) hx hb d_MT_wide_201 (by decide) (fun c13 => ?_) (fun c13 => ?_)
    · replace h := o_ff c13 h
      exact f_MT_wide_j210_a hE hKy C hDD n x1 x3 x4 a0 Ni Np No Nx Nf Na Nh Nq Nj M1 rt h _ _ _ hP hS (lv_sub hl [0, 1, 2, 3] rfl)
    · replace h := o_tt c13 h
      exact f_MT_wide_j204_a hE hKy C hDD n x1 a0 Ni Np No Nx Nf Na Nh Nq Nj M1 rt h _ _ _ hP hS (lv_sub hl [0, 1] rfl)
set_option maxHeartbeats 4000000 in
set_option maxRecDepth 100000 in
theorem f_MT_wide_j90_a {E : (Nat → Prop) → State → Heap → Prop} {p : Program} {l : Launch} {e : Env} {s : State} {m : MethodId} {args : Array Value} {below : List Frame} {meth : Method} {c : Code} {D : va_G} {ad kd sd vd xd : Nat → Nat} {ca : Nat → ClassId} {A : Nat → Prop} {ky ty : Nat → Option Nat} (hE : o_EK E kd sd vd xd) (hKy : m_KY ky ty sd) (C : o_Cx E p s m args meth c D m_cls (m_tys ca) "SchemaJudgeModel$Text" b_MT_wide (some .boolean) 6 cc_MT_wide A) (hDD : ∀ (rt : Nat) (Ni : SNI) (Np : SNP) (No : SNO) (Nx : SNX) (Nf : SNF) (Na : SNA) (Nh : SNH) (Nq : SNQ) (Nj : SNJ) (M0 : SMT) (M1 : SMT), va_D A (m_cw ad ca ky ty rt Ni Np No Nx Nf Na Nh Nq Nj M0 M1)) (n : Nat) (x1 : Int32) (x3 : Int32) (y0 : Int32) (a0 : SMT) (Ni : SNI) (Np : SNP) (No : SNO) (Nx : SNX) (Nf : SNF) (Na : SNA) (Nh : SNH) (Nq : SNQ) (Nj : SNJ) (M1 : SMT) (rt : Nat) {r : Int32 × SMT} (h : m_MT_wide_j90 n x1 x3 y0 a0 = some r) : o_At p l e rm_MT_wide s m args below meth c (MQ below (o_Qx D m_cls (some (.int r.1)) (m_cw ad ca ky ty rt Ni Np No Nx Nf Na Nh Nq Nj r.2 M1) A) args s 0 0 A) m_cls D A 6 90 [.int y0] (m_cw ad ca ky ty rt Ni Np No Nx Nf Na Nh Nq Nj a0 M1) [(0, .ref (ad 33)), (1, .int x1), (3, .int x3)] := by
  unfold m_MT_wide_j90 at h
  intro H locs ls hP hS hl
  have C0 := C
  obtain ⟨hx, hb, -, -, -, hown, hts, hK, -, -⟩ := C0
  refine lv_istore (lv' := [(4, .int y0), (0, .ref (ad 33)), (1, .int x1), (3, .int x3)]) hx hb d_MT_wide_90 hl (by decide) rfl (fun ls hl => ?_)
  refine lv_iload_n hx hb d_MT_wide_92 rfl (lv_at hl 3 rfl) ?_
  refine lv_if_ne (tgt := 102) hx hb d_MT_wide_93 (by decide) (fun c6 => ?_) (fun c6 => ?_)
  · replace h := o_ff c6 h
    refine lv_iconst (v := (1:Int32)) hx hb d_MT_wide_102 (by decide) ?_
    refine lv_istore (lv' := [(5, .int (1:Int32)), (4, .int y0), (0, .ref (ad 33)), (1, .int x1), (3, .int x3)]) hx hb d_MT_wide_103 hl (by decide) rfl (fun ls hl => ?_)
    obtain ⟨q5, hq5, h⟩ := o_bd_some h
    refine o_sim2 (AH := fun zz => o_At p l e rm_MT_wide s m args below meth c _ m_cls D A 6 105 [] (m_cw ad ca ky ty rt Ni Np No Nx Nf Na Nh Nq Nj a0 M1) [(0, .ref (ad 33)), (1, .int x1), (3, .int x3), (4, .int zz.1), (5, .int zz.2)]) (AX := fun qq => if qq.1 = 1 then o_At p l e rm_MT_wide s m args below meth c _ m_cls D A 6 131 [] (m_cw ad ca ky ty rt Ni Np No Nx Nf Na Nh Nq Nj a0 M1) [(0, .ref (ad 33)), (1, .int x1)] else o_At p l e rm_MT_wide s m args below meth c _ m_cls D A 6 162 [] (m_cw ad ca ky ty rt Ni Np No Nx Nf Na Nh Nq Nj a0 M1) [(0, .ref (ad 33)), (1, .int x1), (3, .int x3), (4, .int qq.2.1)]) (fun zz qq h h0 h1 => f_MT_wide_b105_a hE hKy C hDD n x1 x3 a0 Ni Np No Nx Nf Na Nh Nq Nj M1 rt zz qq h h0 h1) n _ q5 hq5 ?_ _ _ _ hP hS (lv_sub hl [2, 3, 4, 1, 0] rfl)
    by_cases c17 : q5.1 = 1
    · replace h := o_tt c17 h
      refine o_ip c17 ?_
      intro H locs ls hP hS hl
      refine lv_aload_n hx hb d_MT_wide_131 rfl (lv_at hl 0 rfl) ?_
      refine lv_iload_n hx hb d_MT_wide_132 rfl (lv_at hl 1 rfl) ?_
      obtain ⟨q6, hq6, h⟩ := o_bd_some h
      refine o_V (st1 := [.int q6.1]) (w1 := (m_cw ad ca ky ty rt Ni Np No Nx Nf Na Nh Nq Nj q6.2 M1)) hE.1 C (e_MT_bad_a hE hKy l x1 a0 Ni Np No Nx Nf Na Nh Nq Nj M1 rt hq6) hP (hDD _ _ _ _ _ _ _ _ _ _ _ _) hS hl.1 rfl mw_33 k_8_203 k_8_204 k_8_205 k_1_13 k_8_206 hv_MT_bad rfl rfl ⟨(Nat.le_of_ble_eq_true rfl), (Nat.le_of_ble_eq_true rfl)⟩ rfl (Nat.le_of_ble_eq_true rfl) ⟨Nat.zero_le _, Nat.zero_le _⟩ rfl d_MT_wide_133 (fun H locs hP hS => ?_)
      obtain ⟨g9, h⟩ := o_gd_some h
      cases h
      exact o_rz C (o_zb_nar g9) hP hS d_MT_wide_136
    replace h := o_ff c17 h
    refine o_in_ c17 ?_
    intro H locs ls hP hS hl
    refine lv_iload_n hx hb d_MT_wide_162 rfl (lv_at hl 2 rfl) ?_
    refine lv_iconst (v := (2:Int32)) hx hb d_MT_wide_163 (by decide) ?_
    refine lv_icmp_ne (tgt := 187) hx hb d_MT_wide_164 (by decide) (fun c10 => ?_) (fun c10 => ?_)
    · replace h := o_ff c10 h
      exact f_MT_wide_j187_a hE hKy C hDD n x1 x3 q5.2.1 a0 Ni Np No Nx Nf Na Nh Nq Nj M1 rt h _ _ _ hP hS (lv_sub hl [0, 1, 2, 3] rfl)
    · replace h := o_tt c10 h
      refine lv_iload hx hb d_MT_wide_167 (lv_at hl 3 rfl) ?_
      refine lv_sipush (v := (2048:Int32)) hx hb d_MT_wide_169 (by decide) ?_
      refine lv_icmp_lt (tgt := 204) hx hb d_MT_wide_172 (by decide) (fun c15 => ?_) (fun c15 => ?_)
      · replace h := o_tt c15 h
        exact f_MT_wide_j204_a hE hKy C hDD n x1 a0 Ni Np No Nx Nf Na Nh Nq Nj M1 rt h _ _ _ hP hS (lv_sub hl [0, 1] rfl)
      · replace h := o_ff c15 h
        refine lv_iload hx hb d_MT_wide_175 (lv_at hl 3 rfl) ?_
        refine lv_ldc (v := (55296:Int32)) hx hb hown (hts _ k_9_1) d_MT_wide_177 ?_
        refine lv_ldc (v := (57343:Int32)) hx hb hown (hts _ k_9_0) d_MT_wide_179 ?_
        obtain ⟨q10, hq10, h⟩ := o_bd_some h
        refine o_SN (st1 := [.int q10]) (w1 := (m_cw ad ca ky ty rt Ni Np No Nx Nf Na Nh Nq Nj a0 M1)) hE.1 C (e_MM_in hE hKy l q5.2.1 (55296:Int32) (57343:Int32) Ni Np No Nx Nf Na Nh Nq Nj a0 M1 rt hq10) hP (hDD _ _ _ _ _ _ _ _ _ _ _ _) hS hl.1 (hE.2.1 _ _ _ C.2.2.2.2.2.2.2.2.2 _ nw_21) k_8_201 k_1_12 k_8_202 hs_MM_in rfl rfl ⟨(Nat.le_of_ble_eq_true rfl), (Nat.le_of_ble_eq_true rfl)⟩ rfl (Nat.le_of_ble_eq_true rfl) ⟨Nat.zero_le _, Nat.zero_le _⟩ rfl d_MT_wide_181 (fun H locs hP hS => ?_)
        refine lv_if_ne (tgt := 204) hx hb d_MT_wide_184 (by decide) (fun c16 => ?_) (fun c16 => ?_)
        · replace h := o_ff c16 h
          exact f_MT_wide_j204_a hE hKy C hDD n x1 a0 Ni Np No Nx Nf Na Nh Nq Nj M1 rt h _ _ _ hP hS (lv_sub hl [0, 1] rfl)
        · replace h := o_tt c16 h
          exact f_MT_wide_j187_a hE hKy C hDD n x1 x3 q5.2.1 a0 Ni Np No Nx Nf Na Nh Nq Nj M1 rt h _ _ _ hP hS (lv_sub hl [0, 1, 2, 3] rfl)
  · replace h := o_tt c6 h
    refine lv_aload_n hx hb d_MT_wide_96 rfl (lv_at hl 1 rfl) ?_
    refine lv_iload_n hx hb d_MT_wide_97 rfl (lv_at hl 2 rfl) ?_
    obtain ⟨q11, hq11, h⟩ := o_bd_some h
    refine o_V (st1 := [.int q11.1]) (w1 := (m_cw ad ca ky ty rt Ni Np No Nx Nf Na Nh Nq Nj q11.2 M1)) hE.1 C (e_MT_bad_a hE hKy l x1 a0 Ni Np No Nx Nf Na Nh Nq Nj M1 rt hq11) hP (hDD _ _ _ _ _ _ _ _ _ _ _ _) hS hl.1 rfl mw_33 k_8_203 k_8_204 k_8_205 k_1_13 k_8_206 hv_MT_bad rfl rfl ⟨(Nat.le_of_ble_eq_true rfl), (Nat.le_of_ble_eq_true rfl)⟩ rfl (Nat.le_of_ble_eq_true rfl) ⟨Nat.zero_le _, Nat.zero_le _⟩ rfl d_MT_wide_98 (fun H locs hP hS => ?_)
    obtain ⟨g18, h⟩ := o_gd_some h
    cases h
    exact o_rz C (o_zb_nar g18) hP hS d_MT_wide_101
set_option maxHeartbeats 4000000 in
set_option maxRecDepth 100000 in
theorem f_MT_wide_j61_a {E : (Nat → Prop) → State → Heap → Prop} {p : Program} {l : Launch} {e : Env} {s : State} {m : MethodId} {args : Array Value} {below : List Frame} {meth : Method} {c : Code} {D : va_G} {ad kd sd vd xd : Nat → Nat} {ca : Nat → ClassId} {A : Nat → Prop} {ky ty : Nat → Option Nat} (hE : o_EK E kd sd vd xd) (hKy : m_KY ky ty sd) (C : o_Cx E p s m args meth c D m_cls (m_tys ca) "SchemaJudgeModel$Text" b_MT_wide (some .boolean) 6 cc_MT_wide A) (hDD : ∀ (rt : Nat) (Ni : SNI) (Np : SNP) (No : SNO) (Nx : SNX) (Nf : SNF) (Na : SNA) (Nh : SNH) (Nq : SNQ) (Nj : SNJ) (M0 : SMT) (M1 : SMT), va_D A (m_cw ad ca ky ty rt Ni Np No Nx Nf Na Nh Nq Nj M0 M1)) (n : Nat) (x1 : Int32) (x2 : Int32) (y0 : Int32) (a0 : SMT) (Ni : SNI) (Np : SNP) (No : SNO) (Nx : SNX) (Nf : SNF) (Na : SNA) (Nh : SNH) (Nq : SNQ) (Nj : SNJ) (M1 : SMT) (rt : Nat) {r : Int32 × SMT} (h : m_MT_wide_j61 n x1 x2 y0 a0 = some r) : o_At p l e rm_MT_wide s m args below meth c (MQ below (o_Qx D m_cls (some (.int r.1)) (m_cw ad ca ky ty rt Ni Np No Nx Nf Na Nh Nq Nj r.2 M1) A) args s 0 0 A) m_cls D A 6 61 [.int y0] (m_cw ad ca ky ty rt Ni Np No Nx Nf Na Nh Nq Nj a0 M1) [(0, .ref (ad 33)), (1, .int x1), (2, .int x2)] := by
  unfold m_MT_wide_j61 at h
  intro H locs ls hP hS hl
  have C0 := C
  obtain ⟨hx, hb, -, -, -, hown, hts, hK, -, -⟩ := C0
  refine lv_istore_n (lv' := [(3, .int y0), (0, .ref (ad 33)), (1, .int x1), (2, .int x2)]) hx hb d_MT_wide_61 rfl hl (by decide) rfl (fun ls hl => ?_)
  refine lv_iload_n hx hb d_MT_wide_62 rfl (lv_at hl 0 rfl) ?_
  refine lv_iconst (v := (1:Int32)) hx hb d_MT_wide_63 (by decide) ?_
  refine lv_icmp_ne (tgt := 74) hx hb d_MT_wide_64 (by decide) (fun c4 => ?_) (fun c4 => ?_)
  · replace h := o_ff c4 h
    refine lv_iload_n hx hb d_MT_wide_74 rfl (lv_at hl 0 rfl) ?_
    refine lv_iconst (v := (2:Int32)) hx hb d_MT_wide_75 (by decide) ?_
    refine lv_icmp_ne (tgt := 86) hx hb d_MT_wide_76 (by decide) (fun c5 => ?_) (fun c5 => ?_)
    · replace h := o_ff c5 h
      refine lv_iload_n hx hb d_MT_wide_86 rfl (lv_at hl 3 rfl) ?_
      refine lv_bipush (v := (7:Int32)) hx hb d_MT_wide_87 (by decide) ?_
      refine lv_iand hx hb d_MT_wide_89 ?_
      exact f_MT_wide_j90_a hE hKy C hDD n x1 y0 (x2 &&& (7:Int32)) a0 Ni Np No Nx Nf Na Nh Nq Nj M1 rt h _ _ _ hP hS (lv_sub hl [1, 2, 0] rfl)
    · replace h := o_tt c5 h
      refine lv_iload_n hx hb d_MT_wide_79 rfl (lv_at hl 3 rfl) ?_
      refine lv_bipush (v := (15:Int32)) hx hb d_MT_wide_80 (by decide) ?_
      refine lv_iand hx hb d_MT_wide_82 ?_
      refine lv_goto (tgt := 90) hx hb d_MT_wide_83 (by decide) ?_
      exact f_MT_wide_j90_a hE hKy C hDD n x1 y0 (x2 &&& (15:Int32)) a0 Ni Np No Nx Nf Na Nh Nq Nj M1 rt h _ _ _ hP hS (lv_sub hl [1, 2, 0] rfl)
  · replace h := o_tt c4 h
    refine lv_iload_n hx hb d_MT_wide_67 rfl (lv_at hl 3 rfl) ?_
    refine lv_bipush (v := (31:Int32)) hx hb d_MT_wide_68 (by decide) ?_
    refine lv_iand hx hb d_MT_wide_70 ?_
    refine lv_goto (tgt := 90) hx hb d_MT_wide_71 (by decide) ?_
    exact f_MT_wide_j90_a hE hKy C hDD n x1 y0 (x2 &&& (31:Int32)) a0 Ni Np No Nx Nf Na Nh Nq Nj M1 rt h _ _ _ hP hS (lv_sub hl [1, 2, 0] rfl)
set_option maxHeartbeats 4000000 in
set_option maxRecDepth 100000 in
theorem f_MT_wide_j42_a {E : (Nat → Prop) → State → Heap → Prop} {p : Program} {l : Launch} {e : Env} {s : State} {m : MethodId} {args : Array Value} {below : List Frame} {meth : Method} {c : Code} {D : va_G} {ad kd sd vd xd : Nat → Nat} {ca : Nat → ClassId} {A : Nat → Prop} {ky ty : Nat → Option Nat} (hE : o_EK E kd sd vd xd) (hKy : m_KY ky ty sd) (C : o_Cx E p s m args meth c D m_cls (m_tys ca) "SchemaJudgeModel$Text" b_MT_wide (some .boolean) 6 cc_MT_wide A) (hDD : ∀ (rt : Nat) (Ni : SNI) (Np : SNP) (No : SNO) (Nx : SNX) (Nf : SNF) (Na : SNA) (Nh : SNH) (Nq : SNQ) (Nj : SNJ) (M0 : SMT) (M1 : SMT), va_D A (m_cw ad ca ky ty rt Ni Np No Nx Nf Na Nh Nq Nj M0 M1)) (n : Nat) (x1 : Int32) (x2 : Int32) (a0 : SMT) (Ni : SNI) (Np : SNP) (No : SNO) (Nx : SNX) (Nf : SNF) (Na : SNA) (Nh : SNH) (Nq : SNQ) (Nj : SNJ) (M1 : SMT) (rt : Nat) {r : Int32 × SMT} (h : m_MT_wide_j42 n x1 x2 a0 = some r) : o_At p l e rm_MT_wide s m args below meth c (MQ below (o_Qx D m_cls (some (.int r.1)) (m_cw ad ca ky ty rt Ni Np No Nx Nf Na Nh Nq Nj r.2 M1) A) args s 0 0 A) m_cls D A 6 42 [] (m_cw ad ca ky ty rt Ni Np No Nx Nf Na Nh Nq Nj a0 M1) [(0, .ref (ad 33)), (1, .int x1), (2, .int x2)] := by
  unfold m_MT_wide_j42 at h
  intro H locs ls hP hS hl
  have C0 := C
  obtain ⟨hx, hb, -, -, -, hown, hts, hK, -, -⟩ := C0
  refine lv_iload_n hx hb d_MT_wide_42 rfl (lv_at hl 2 rfl) ?_
  refine lv_sipush (v := (240:Int32)) hx hb d_MT_wide_43 (by decide) ?_
  refine lv_icmp_lt (tgt := 60) hx hb d_MT_wide_46 (by decide) (fun c3 => ?_) (fun c3 => ?_)
  · replace h := o_tt c3 h
    refine lv_iconst (v := (0:Int32)) hx hb d_MT_wide_60 (by decide) ?_
    exact f_MT_wide_j61_a hE hKy C hDD n x1 x2 (0:Int32) a0 Ni Np No Nx Nf Na Nh Nq Nj M1 rt h _ _ _ hP hS (lv_sub hl [0, 1, 2] rfl)
  · replace h := o_ff c3 h
    refine lv_iload_n hx hb d_MT_wide_49 rfl (lv_at hl 2 rfl) ?_
    refine lv_sipush (v := (245:Int32)) hx hb d_MT_wide_50 (by decide) ?_
    refine lv_icmp_ge (tgt := 60) hx hb d_MT_wide_53 (by decide) (fun c19 => ?_) (fun c19 => ?_)
    · replace h := o_tt c19 h
      refine lv_iconst (v := (0:Int32)) hx hb d_MT_wide_60 (by decide) ?_
      exact f_MT_wide_j61_a hE hKy C hDD n x1 x2 (0:Int32) a0 Ni Np No Nx Nf Na Nh Nq Nj M1 rt h _ _ _ hP hS (lv_sub hl [0, 1, 2] rfl)
    · replace h := o_ff c19 h
      refine lv_iconst (v := (3:Int32)) hx hb d_MT_wide_56 (by decide) ?_
      refine lv_goto (tgt := 61) hx hb d_MT_wide_57 (by decide) ?_
      exact f_MT_wide_j61_a hE hKy C hDD n x1 x2 (3:Int32) a0 Ni Np No Nx Nf Na Nh Nq Nj M1 rt h _ _ _ hP hS (lv_sub hl [0, 1, 2] rfl)
set_option maxHeartbeats 4000000 in
set_option maxRecDepth 100000 in
theorem f_MT_wide_j24_a {E : (Nat → Prop) → State → Heap → Prop} {p : Program} {l : Launch} {e : Env} {s : State} {m : MethodId} {args : Array Value} {below : List Frame} {meth : Method} {c : Code} {D : va_G} {ad kd sd vd xd : Nat → Nat} {ca : Nat → ClassId} {A : Nat → Prop} {ky ty : Nat → Option Nat} (hE : o_EK E kd sd vd xd) (hKy : m_KY ky ty sd) (C : o_Cx E p s m args meth c D m_cls (m_tys ca) "SchemaJudgeModel$Text" b_MT_wide (some .boolean) 6 cc_MT_wide A) (hDD : ∀ (rt : Nat) (Ni : SNI) (Np : SNP) (No : SNO) (Nx : SNX) (Nf : SNF) (Na : SNA) (Nh : SNH) (Nq : SNQ) (Nj : SNJ) (M0 : SMT) (M1 : SMT), va_D A (m_cw ad ca ky ty rt Ni Np No Nx Nf Na Nh Nq Nj M0 M1)) (n : Nat) (x1 : Int32) (x2 : Int32) (a0 : SMT) (Ni : SNI) (Np : SNP) (No : SNO) (Nx : SNX) (Nf : SNF) (Na : SNA) (Nh : SNH) (Nq : SNQ) (Nj : SNJ) (M1 : SMT) (rt : Nat) {r : Int32 × SMT} (h : m_MT_wide_j24 n x1 x2 a0 = some r) : o_At p l e rm_MT_wide s m args below meth c (MQ below (o_Qx D m_cls (some (.int r.1)) (m_cw ad ca ky ty rt Ni Np No Nx Nf Na Nh Nq Nj r.2 M1) A) args s 0 0 A) m_cls D A 6 24 [] (m_cw ad ca ky ty rt Ni Np No Nx Nf Na Nh Nq Nj a0 M1) [(0, .ref (ad 33)), (1, .int x1), (2, .int x2)] := by
  unfold m_MT_wide_j24 at h
  intro H locs ls hP hS hl
  have C0 := C
  obtain ⟨hx, hb, -, -, -, hown, hts, hK, -, -⟩ := C0
  refine lv_iload_n hx hb d_MT_wide_24 rfl (lv_at hl 2 rfl) ?_
  refine lv_sipush (v := (224:Int32)) hx hb d_MT_wide_25 (by decide) ?_
  refine lv_icmp_lt (tgt := 42) hx hb d_MT_wide_28 (by decide) (fun c2 => ?_) (fun c2 => ?_)
  · replace h := o_tt c2 h
    exact f_MT_wide_j42_a hE hKy C hDD n x1 x2 a0 Ni Np No Nx Nf Na Nh Nq Nj M1 rt h _ _ _ hP hS (lv_sub hl [0, 1, 2] rfl)
  · replace h := o_ff c2 h
    refine lv_iload_n hx hb d_MT_wide_31 rfl (lv_at hl 2 rfl) ?_
    refine lv_sipush (v := (240:Int32)) hx hb d_MT_wide_32 (by decide) ?_
    refine lv_icmp_ge (tgt := 42) hx hb d_MT_wide_35 (by decide) (fun c20 => ?_) (fun c20 => ?_)
    · replace h := o_tt c20 h
      exact f_MT_wide_j42_a hE hKy C hDD n x1 x2 a0 Ni Np No Nx Nf Na Nh Nq Nj M1 rt h _ _ _ hP hS (lv_sub hl [0, 1, 2] rfl)
    · replace h := o_ff c20 h
      refine lv_iconst (v := (2:Int32)) hx hb d_MT_wide_38 (by decide) ?_
      refine lv_goto (tgt := 61) hx hb d_MT_wide_39 (by decide) ?_
      exact f_MT_wide_j61_a hE hKy C hDD n x1 x2 (2:Int32) a0 Ni Np No Nx Nf Na Nh Nq Nj M1 rt h _ _ _ hP hS (lv_sub hl [0, 1, 2] rfl)
set_option maxHeartbeats 4000000 in
set_option maxRecDepth 100000 in
theorem e_MT_wide_a {E : (Nat → Prop) → State → Heap → Prop} {D : va_G} {ad kd sd vd xd : Nat → Nat} {ca : Nat → ClassId} {ky ty : Nat → Option Nat} (hE : o_EK E kd sd vd xd) (hKy : m_KY ky ty sd) (l : Launch) (n : Nat) (x1 : Int32) (a0 : SMT) (Ni : SNI) (Np : SNP) (No : SNO) (Nx : SNX) (Nf : SNF) (Na : SNA) (Nh : SNH) (Nq : SNQ) (Nj : SNJ) (M1 : SMT) (rt : Nat) {r : Int32 × SMT} (h : m_MT_wide n x1 a0 = some r) : o_Cn E l D m_cls (m_tys ca) y_MT_wide cc_MT_wide rm_MT_wide [.ref (ad 33), .int x1] (m_cw ad ca ky ty rt Ni Np No Nx Nf Na Nh Nq Nj a0 M1) (m_cw ad ca ky ty rt Ni Np No Nx Nf Na Nh Nq Nj r.2 M1) (some (.int r.1)) := by
  refine o_Cn_of (by decide) (Nat.le_of_ble_eq_true rfl) ?_
  intro p e s m below meth c A ls C hD hP hS hl
  have hDD : ∀ (rt : Nat) (Ni : SNI) (Np : SNP) (No : SNO) (Nx : SNX) (Nf : SNF) (Na : SNA) (Nh : SNH) (Nq : SNQ) (Nj : SNJ) (M0 : SMT) (M1 : SMT), va_D A (m_cw ad ca ky ty rt Ni Np No Nx Nf Na Nh Nq Nj M0 M1) := fun _ _ _ _ _ _ _ _ _ _ _ _ => o_D_map hD rfl
  have hl : lv_has ls 6 [(0, .ref (ad 33)), (1, .int x1)] := hl
  unfold m_MT_wide at h
  have C0 := C
  obtain ⟨hx, hb, -, -, -, hown, hts, hK, -, -⟩ := C0
  refine lv_aload_n hx hb d_MT_wide_0 rfl (lv_at hl 0 rfl) ?_
  refine lv_iload_n hx hb d_MT_wide_1 rfl (lv_at hl 1 rfl) ?_
  obtain ⟨q1, hq1, h⟩ := o_bd_some h
  refine o_V (st1 := [.int q1]) (w1 := (m_cw ad ca ky ty rt Ni Np No Nx Nf Na Nh Nq Nj a0 M1)) hE.1 C (e_MT_c_a hE hKy l x1 a0 Ni Np No Nx Nf Na Nh Nq Nj M1 rt hq1) hP (hDD _ _ _ _ _ _ _ _ _ _ _ _) hS hl.1 rfl mw_33 k_8_192 k_8_193 k_8_194 k_1_13 k_8_195 hv_MT_c rfl rfl ⟨(Nat.le_of_ble_eq_true rfl), (Nat.le_of_ble_eq_true rfl)⟩ rfl (Nat.le_of_ble_eq_true rfl) ⟨Nat.zero_le _, Nat.zero_le _⟩ rfl d_MT_wide_2 (fun H locs hP hS => ?_)
  refine lv_istore_n (lv' := [(2, .int q1), (0, .ref (ad 33)), (1, .int x1)]) hx hb d_MT_wide_5 rfl hl (by decide) rfl (fun ls hl => ?_)
  refine lv_iload_n hx hb d_MT_wide_6 rfl (lv_at hl 0 rfl) ?_
  refine lv_sipush (v := (194:Int32)) hx hb d_MT_wide_7 (by decide) ?_
  refine lv_icmp_lt (tgt := 24) hx hb d_MT_wide_10 (by decide) (fun c1 => ?_) (fun c1 => ?_)
  · replace h := o_tt c1 h
    exact f_MT_wide_j24_a hE hKy C hDD n x1 q1 a0 Ni Np No Nx Nf Na Nh Nq Nj M1 rt h _ _ _ hP hS (lv_sub hl [1, 2, 0] rfl)
  · replace h := o_ff c1 h
    refine lv_iload_n hx hb d_MT_wide_13 rfl (lv_at hl 0 rfl) ?_
    refine lv_sipush (v := (224:Int32)) hx hb d_MT_wide_14 (by decide) ?_
    refine lv_icmp_ge (tgt := 24) hx hb d_MT_wide_17 (by decide) (fun c21 => ?_) (fun c21 => ?_)
    · replace h := o_tt c21 h
      exact f_MT_wide_j24_a hE hKy C hDD n x1 q1 a0 Ni Np No Nx Nf Na Nh Nq Nj M1 rt h _ _ _ hP hS (lv_sub hl [1, 2, 0] rfl)
    · replace h := o_ff c21 h
      refine lv_iconst (v := (1:Int32)) hx hb d_MT_wide_20 (by decide) ?_
      refine lv_goto (tgt := 61) hx hb d_MT_wide_21 (by decide) ?_
      exact f_MT_wide_j61_a hE hKy C hDD n x1 q1 (1:Int32) a0 Ni Np No Nx Nf Na Nh Nq Nj M1 rt h _ _ _ hP hS (lv_sub hl [1, 2, 0] rfl)
set_option maxHeartbeats 4000000 in
set_option maxRecDepth 100000 in
theorem f_MT_wide_b105_b {E : (Nat → Prop) → State → Heap → Prop} {p : Program} {l : Launch} {e : Env} {s : State} {m : MethodId} {args : Array Value} {below : List Frame} {meth : Method} {c : Code} {D : va_G} {ad kd sd vd xd : Nat → Nat} {ca : Nat → ClassId} {A : Nat → Prop} {ky ty : Nat → Option Nat} {Q : State → Prop} (hE : o_EK E kd sd vd xd) (hKy : m_KY ky ty sd) (C : o_Cx E p s m args meth c D m_cls (m_tys ca) "SchemaJudgeModel$Text" b_MT_wide (some .boolean) 6 cc_MT_wide A) (hDD : ∀ (rt : Nat) (Ni : SNI) (Np : SNP) (No : SNO) (Nx : SNX) (Nf : SNF) (Na : SNA) (Nh : SNH) (Nq : SNQ) (Nj : SNJ) (M0 : SMT) (M1 : SMT), va_D A (m_cw ad ca ky ty rt Ni Np No Nx Nf Na Nh Nq Nj M0 M1)) (n : Nat) (u105_x1 : Int32) (u105_x3 : Int32) (u105_a0 : SMT) (u105_Ni : SNI) (u105_Np : SNP) (u105_No : SNO) (u105_Nx : SNX) (u105_Nf : SNF) (u105_Na : SNA) (u105_Nh : SNH) (u105_Nq : SNQ) (u105_Nj : SNJ) (u105_M0 : SMT) (u105_rt : Nat) (z : Int32 × Int32) (q : Nat × Int32 × Int32) (h : m_MT_wide_b105 n u105_x1 u105_x3 u105_a0 z = some q) (h0 : q.1 = 0 → o_At p l e rm_MT_wide s m args below meth c Q m_cls D A 6 105 [] (m_cw ad ca ky ty u105_rt u105_Ni u105_Np u105_No u105_Nx u105_Nf u105_Na u105_Nh u105_Nq u105_Nj u105_M0 u105_a0) [(0, .ref (ad 48)), (1, .int u105_x1), (3, .int u105_x3), (4, .int q.2.1), (5, .int q.2.2)]) (h1 : q.1 ≠ 0 → (if q.1 = 1 then o_At p l e rm_MT_wide s m args below meth c Q m_cls D A 6 131 [] (m_cw ad ca ky ty u105_rt u105_Ni u105_Np u105_No u105_Nx u105_Nf u105_Na u105_Nh u105_Nq u105_Nj u105_M0 u105_a0) [(0, .ref (ad 48)), (1, .int u105_x1)] else o_At p l e rm_MT_wide s m args below meth c Q m_cls D A 6 162 [] (m_cw ad ca ky ty u105_rt u105_Ni u105_Np u105_No u105_Nx u105_Nf u105_Na u105_Nh u105_Nq u105_Nj u105_M0 u105_a0) [(0, .ref (ad 48)), (1, .int u105_x1), (3, .int u105_x3), (4, .int q.2.1)])) : o_At p l e rm_MT_wide s m args below meth c Q m_cls D A 6 105 [] (m_cw ad ca ky ty u105_rt u105_Ni u105_Np u105_No u105_Nx u105_Nf u105_Na u105_Nh u105_Nq u105_Nj u105_M0 u105_a0) [(0, .ref (ad 48)), (1, .int u105_x1), (3, .int u105_x3), (4, .int z.1), (5, .int z.2)] := by
  unfold m_MT_wide_b105 at h
  intro H locs ls hP hS hl
  have C0 := C
  obtain ⟨hx, hb, -, -, -, hown, hts, hK, -, -⟩ := C0
  refine lv_iload hx hb d_MT_wide_105 (lv_at hl 4 rfl) ?_
  refine lv_iload_n hx hb d_MT_wide_107 rfl (lv_at hl 2 rfl) ?_
  refine lv_icmp_gt (tgt := 162) hx hb d_MT_wide_108 (by decide) (fun c7 => ?_) (fun c7 => ?_)
  · replace h := o_tt c7 h
    cases h
    exact h1 (Nat.succ_ne_zero 1) _ _ _ hP hS (lv_sub hl [0, 1, 2, 3] rfl)
  · replace h := o_ff c7 h
    refine lv_aload_n hx hb d_MT_wide_111 rfl (lv_at hl 0 rfl) ?_
    refine lv_iload_n hx hb d_MT_wide_112 rfl (lv_at hl 1 rfl) ?_
    refine lv_iload hx hb d_MT_wide_113 (lv_at hl 4 rfl) ?_
    refine lv_iadd hx hb d_MT_wide_115 ?_
    obtain ⟨q2, hq2, h⟩ := o_bd_some h
    refine o_V (st1 := [.int q2]) (w1 := (m_cw ad ca ky ty u105_rt u105_Ni u105_Np u105_No u105_Nx u105_Nf u105_Na u105_Nh u105_Nq u105_Nj u105_M0 u105_a0)) hE.1 C (e_MT_c_b hE hKy l (u105_x1 + z.2) u105_a0 u105_Ni u105_Np u105_No u105_Nx u105_Nf u105_Na u105_Nh u105_Nq u105_Nj u105_M0 u105_rt hq2) hP (hDD _ _ _ _ _ _ _ _ _ _ _ _) hS hl.1 rfl mw_48 k_8_192 k_8_193 k_8_194 k_1_13 k_8_195 hv_MT_c rfl rfl ⟨(Nat.le_of_ble_eq_true rfl), (Nat.le_of_ble_eq_true rfl)⟩ rfl (Nat.le_of_ble_eq_true rfl) ⟨Nat.zero_le _, Nat.zero_le _⟩ rfl d_MT_wide_116 (fun H locs hP hS => ?_)
    refine lv_sipush (v := (128:Int32)) hx hb d_MT_wide_119 (by decide) ?_
    refine lv_sipush (v := (191:Int32)) hx hb d_MT_wide_122 (by decide) ?_
    obtain ⟨q3, hq3, h⟩ := o_bd_some h
    refine o_SN (st1 := [.int q3]) (w1 := (m_cw ad ca ky ty u105_rt u105_Ni u105_Np u105_No u105_Nx u105_Nf u105_Na u105_Nh u105_Nq u105_Nj u105_M0 u105_a0)) hE.1 C (e_MM_in hE hKy l q2 (128:Int32) (191:Int32) u105_Ni u105_Np u105_No u105_Nx u105_Nf u105_Na u105_Nh u105_Nq u105_Nj u105_M0 u105_a0 u105_rt hq3) hP (hDD _ _ _ _ _ _ _ _ _ _ _ _) hS hl.1 (hE.2.1 _ _ _ C.2.2.2.2.2.2.2.2.2 _ nw_21) k_8_201 k_1_12 k_8_202 hs_MM_in rfl rfl ⟨(Nat.le_of_ble_eq_true rfl), (Nat.le_of_ble_eq_true rfl)⟩ rfl (Nat.le_of_ble_eq_true rfl) ⟨Nat.zero_le _, Nat.zero_le _⟩ rfl d_MT_wide_125 (fun H locs hP hS => ?_)
    refine lv_if_ne (tgt := 137) hx hb d_MT_wide_128 (by decide) (fun c8 => ?_) (fun c8 => ?_)
    · replace h := o_ff c8 h
      refine lv_iload hx hb d_MT_wide_137 (lv_at hl 3 rfl) ?_
      refine lv_bipush (v := (6:Int32)) hx hb d_MT_wide_139 (by decide) ?_
      refine lv_ishl hx hb d_MT_wide_141 ?_
      refine lv_aload_n hx hb d_MT_wide_142 rfl (lv_at hl 0 rfl) ?_
      refine lv_iload_n hx hb d_MT_wide_143 rfl (lv_at hl 1 rfl) ?_
      refine lv_iload hx hb d_MT_wide_144 (lv_at hl 4 rfl) ?_
      refine lv_iadd hx hb d_MT_wide_146 ?_
      obtain ⟨q4, hq4, h⟩ := o_bd_some h
      refine o_V (st1 := [.int q4, .int (z.1 <<< ((6:Int32) &&& 31))]) (w1 := (m_cw ad ca ky ty u105_rt u105_Ni u105_Np u105_No u105_Nx u105_Nf u105_Na u105_Nh u105_Nq u105_Nj u105_M0 u105_a0)) hE.1 C (e_MT_c_b hE hKy l (u105_x1 + z.2) u105_a0 u105_Ni u105_Np u105_No u105_Nx u105_Nf u105_Na u105_Nh u105_Nq u105_Nj u105_M0 u105_rt hq4) hP (hDD _ _ _ _ _ _ _ _ _ _ _ _) hS hl.1 rfl mw_48 k_8_192 k_8_193 k_8_194 k_1_13 k_8_195 hv_MT_c rfl rfl ⟨(Nat.le_of_ble_eq_true rfl), (Nat.le_of_ble_eq_true rfl)⟩ rfl (Nat.le_of_ble_eq_true rfl) ⟨Nat.zero_le _, Nat.zero_le _⟩ rfl d_MT_wide_147 (fun H locs hP hS => ?_)
      refine lv_bipush (v := (63:Int32)) hx hb d_MT_wide_150 (by decide) ?_
      refine lv_iand hx hb d_MT_wide_152 ?_
      refine lv_ior hx hb d_MT_wide_153 ?_
      refine lv_topi (fun x4_154 ex4_154 => ?_)
      replace h := o_nm_at ex4_154 h
      refine lv_istore (lv' := [(4, .int x4_154), (0, .ref (ad 48)), (1, .int u105_x1), (3, .int u105_x3), (5, .int z.2)]) hx hb d_MT_wide_154 hl (by decide) rfl (fun ls hl => ?_)
      obtain ⟨x5_156, ex5_156⟩ : ∃ y : Int32, y = z.2 + (1:Int32) := ⟨_, rfl⟩
      replace h := o_nm_at ex5_156 h
      refine lv_iinc (v := x5_156) (lv' := [(5, .int x5_156), (4, .int x4_154), (0, .ref (ad 48)), (1, .int u105_x1), (3, .int u105_x3)]) hx hb d_MT_wide_156 hl (k := 4) rfl (by rw [ex5_156]; rfl) (by decide) rfl (fun ls hl => ?_)
      refine lv_goto (tgt := 105) hx hb d_MT_wide_159 (by decide) ?_
      cases h
      exact h0 rfl _ _ _ hP hS (lv_sub hl [2, 3, 4, 1, 0] rfl)
    · replace h := o_tt c8 h
      cases h
      exact h1 (Nat.succ_ne_zero 0) _ _ _ hP hS (lv_sub hl [0, 1] rfl)
set_option maxHeartbeats 4000000 in
set_option maxRecDepth 100000 in
theorem f_MT_wide_j210_b {E : (Nat → Prop) → State → Heap → Prop} {p : Program} {l : Launch} {e : Env} {s : State} {m : MethodId} {args : Array Value} {below : List Frame} {meth : Method} {c : Code} {D : va_G} {ad kd sd vd xd : Nat → Nat} {ca : Nat → ClassId} {A : Nat → Prop} {ky ty : Nat → Option Nat} (hE : o_EK E kd sd vd xd) (hKy : m_KY ky ty sd) (C : o_Cx E p s m args meth c D m_cls (m_tys ca) "SchemaJudgeModel$Text" b_MT_wide (some .boolean) 6 cc_MT_wide A) (hDD : ∀ (rt : Nat) (Ni : SNI) (Np : SNP) (No : SNO) (Nx : SNX) (Nf : SNF) (Na : SNA) (Nh : SNH) (Nq : SNQ) (Nj : SNJ) (M0 : SMT) (M1 : SMT), va_D A (m_cw ad ca ky ty rt Ni Np No Nx Nf Na Nh Nq Nj M0 M1)) (n : Nat) (x1 : Int32) (x3 : Int32) (x4 : Int32) (a0 : SMT) (Ni : SNI) (Np : SNP) (No : SNO) (Nx : SNX) (Nf : SNF) (Na : SNA) (Nh : SNH) (Nq : SNQ) (Nj : SNJ) (M0 : SMT) (rt : Nat) {r : Int32 × SMT} (h : m_MT_wide_j210 n x1 x3 x4 a0 = some r) : o_At p l e rm_MT_wide s m args below meth c (MQ below (o_Qx D m_cls (some (.int r.1)) (m_cw ad ca ky ty rt Ni Np No Nx Nf Na Nh Nq Nj M0 r.2) A) args s 0 0 A) m_cls D A 6 210 [] (m_cw ad ca ky ty rt Ni Np No Nx Nf Na Nh Nq Nj M0 a0) [(0, .ref (ad 48)), (1, .int x1), (3, .int x3), (4, .int x4)] := by
  unfold m_MT_wide_j210 at h
  intro H locs ls hP hS hl
  have C0 := C
  obtain ⟨hx, hb, -, -, -, hown, hts, hK, -, -⟩ := C0
  refine lv_aload_n hx hb d_MT_wide_210 rfl (lv_at hl 0 rfl) ?_
  refine lv_dup hx hb d_MT_wide_211 rfl ?_
  refine o_get (v := .int (MT_at a0)) C in_MT hP 48 mw_48 rfl 15 (by decide) k_7_129 rfl rfl d_MT_wide_212 ?_
  refine lv_iload_n hx hb d_MT_wide_215 rfl (lv_at hl 2 rfl) ?_
  refine lv_iconst (v := (1:Int32)) hx hb d_MT_wide_216 (by decide) ?_
  refine lv_iadd hx hb d_MT_wide_217 ?_
  refine lv_iadd hx hb d_MT_wide_218 ?_
  refine o_put (v := .int ((MT_at a0) + (x3 + (1:Int32)))) (ty := .int) (w1 := (m_cw ad ca ky ty rt Ni Np No Nx Nf Na Nh Nq Nj M0 (MT_mk (MT_text a0) (MT_kind a0) (MT_place a0) (MT_many a0) (MT_parent a0) (MT_power a0) (MT_first a0) (MT_next a0) (MT_name a0) (MT_from a0) (MT_characters a0) (MT_digits a0) (MT_minus a0) (MT_values a0) (MT_letters a0) ((MT_at a0) + (x3 + (1:Int32))) (MT_wrong a0) (MT_used a0) (MT_written a0) (MT_left a0)))) C in_MT t_MT t_MT_ok n_MT hP (hDD _ _ _ _ _ _ _ _ _ _ _ _) hS 48 mw_48 rfl 15 (by decide) k_7_129 rfl rfl (by decide +kernel) rfl rfl (Nat.le_of_ble_eq_true rfl) rfl d_MT_wide_219 (fun H locs hP hS => ?_)
  refine lv_aload_n hx hb d_MT_wide_222 rfl (lv_at hl 0 rfl) ?_
  refine lv_iload hx hb d_MT_wide_223 (lv_at hl 3 rfl) ?_
  refine lv_iload_n hx hb d_MT_wide_225 rfl (lv_at hl 1 rfl) ?_
  obtain ⟨q7, hq7, h⟩ := o_bd_some h
  refine o_V (st1 := [.int q7.1]) (w1 := (m_cw ad ca ky ty rt Ni Np No Nx Nf Na Nh Nq Nj M0 q7.2)) hE.1 C (e_MT_put_b hE hKy l x4 x1 (MT_mk (MT_text a0) (MT_kind a0) (MT_place a0) (MT_many a0) (MT_parent a0) (MT_power a0) (MT_first a0) (MT_next a0) (MT_name a0) (MT_from a0) (MT_characters a0) (MT_digits a0) (MT_minus a0) (MT_values a0) (MT_letters a0) ((MT_at a0) + (x3 + (1:Int32))) (MT_wrong a0) (MT_used a0) (MT_written a0) (MT_left a0)) Ni Np No Nx Nf Na Nh Nq Nj M0 rt hq7) hP (hDD _ _ _ _ _ _ _ _ _ _ _ _) hS hl.1 rfl mw_48 k_8_228 k_8_229 k_8_230 k_1_13 k_8_231 hv_MT_put rfl rfl ⟨(Nat.le_of_ble_eq_true rfl), (Nat.le_of_ble_eq_true rfl)⟩ rfl (Nat.le_of_ble_eq_true rfl) ⟨Nat.zero_le _, Nat.zero_le _⟩ rfl d_MT_wide_226 (fun H locs hP hS => ?_)
  obtain ⟨g12, h⟩ := o_gd_some h
  cases h
  exact o_rz C (o_zb_nar g12) hP hS d_MT_wide_229
set_option maxHeartbeats 4000000 in
set_option maxRecDepth 100000 in
theorem f_MT_wide_j204_b {E : (Nat → Prop) → State → Heap → Prop} {p : Program} {l : Launch} {e : Env} {s : State} {m : MethodId} {args : Array Value} {below : List Frame} {meth : Method} {c : Code} {D : va_G} {ad kd sd vd xd : Nat → Nat} {ca : Nat → ClassId} {A : Nat → Prop} {ky ty : Nat → Option Nat} (hE : o_EK E kd sd vd xd) (hKy : m_KY ky ty sd) (C : o_Cx E p s m args meth c D m_cls (m_tys ca) "SchemaJudgeModel$Text" b_MT_wide (some .boolean) 6 cc_MT_wide A) (hDD : ∀ (rt : Nat) (Ni : SNI) (Np : SNP) (No : SNO) (Nx : SNX) (Nf : SNF) (Na : SNA) (Nh : SNH) (Nq : SNQ) (Nj : SNJ) (M0 : SMT) (M1 : SMT), va_D A (m_cw ad ca ky ty rt Ni Np No Nx Nf Na Nh Nq Nj M0 M1)) (n : Nat) (x1 : Int32) (a0 : SMT) (Ni : SNI) (Np : SNP) (No : SNO) (Nx : SNX) (Nf : SNF) (Na : SNA) (Nh : SNH) (Nq : SNQ) (Nj : SNJ) (M0 : SMT) (rt : Nat) {r : Int32 × SMT} (h : m_MT_wide_j204 n x1 a0 = some r) : o_At p l e rm_MT_wide s m args below meth c (MQ below (o_Qx D m_cls (some (.int r.1)) (m_cw ad ca ky ty rt Ni Np No Nx Nf Na Nh Nq Nj M0 r.2) A) args s 0 0 A) m_cls D A 6 204 [] (m_cw ad ca ky ty rt Ni Np No Nx Nf Na Nh Nq Nj M0 a0) [(0, .ref (ad 48)), (1, .int x1)] := by
  unfold m_MT_wide_j204 at h
  intro H locs ls hP hS hl
  have C0 := C
  obtain ⟨hx, hb, -, -, -, hown, hts, hK, -, -⟩ := C0
  refine lv_aload_n hx hb d_MT_wide_204 rfl (lv_at hl 0 rfl) ?_
  refine lv_iload_n hx hb d_MT_wide_205 rfl (lv_at hl 1 rfl) ?_
  obtain ⟨q9, hq9, h⟩ := o_bd_some h
  refine o_V (st1 := [.int q9.1]) (w1 := (m_cw ad ca ky ty rt Ni Np No Nx Nf Na Nh Nq Nj M0 q9.2)) hE.1 C (e_MT_bad_b hE hKy l x1 a0 Ni Np No Nx Nf Na Nh Nq Nj M0 rt hq9) hP (hDD _ _ _ _ _ _ _ _ _ _ _ _) hS hl.1 rfl mw_48 k_8_203 k_8_204 k_8_205 k_1_13 k_8_206 hv_MT_bad rfl rfl ⟨(Nat.le_of_ble_eq_true rfl), (Nat.le_of_ble_eq_true rfl)⟩ rfl (Nat.le_of_ble_eq_true rfl) ⟨Nat.zero_le _, Nat.zero_le _⟩ rfl d_MT_wide_206 (fun H locs hP hS => ?_)
  obtain ⟨g14, h⟩ := o_gd_some h
  cases h
  exact o_rz C (o_zb_nar g14) hP hS d_MT_wide_209
set_option maxHeartbeats 4000000 in
set_option maxRecDepth 100000 in
theorem f_MT_wide_j187_b {E : (Nat → Prop) → State → Heap → Prop} {p : Program} {l : Launch} {e : Env} {s : State} {m : MethodId} {args : Array Value} {below : List Frame} {meth : Method} {c : Code} {D : va_G} {ad kd sd vd xd : Nat → Nat} {ca : Nat → ClassId} {A : Nat → Prop} {ky ty : Nat → Option Nat} (hE : o_EK E kd sd vd xd) (hKy : m_KY ky ty sd) (C : o_Cx E p s m args meth c D m_cls (m_tys ca) "SchemaJudgeModel$Text" b_MT_wide (some .boolean) 6 cc_MT_wide A) (hDD : ∀ (rt : Nat) (Ni : SNI) (Np : SNP) (No : SNO) (Nx : SNX) (Nf : SNF) (Na : SNA) (Nh : SNH) (Nq : SNQ) (Nj : SNJ) (M0 : SMT) (M1 : SMT), va_D A (m_cw ad ca ky ty rt Ni Np No Nx Nf Na Nh Nq Nj M0 M1)) (n : Nat) (x1 : Int32) (x3 : Int32) (x4 : Int32) (a0 : SMT) (Ni : SNI) (Np : SNP) (No : SNO) (Nx : SNX) (Nf : SNF) (Na : SNA) (Nh : SNH) (Nq : SNQ) (Nj : SNJ) (M0 : SMT) (rt : Nat) {r : Int32 × SMT} (h : m_MT_wide_j187 n x1 x3 x4 a0 = some r) : o_At p l e rm_MT_wide s m args below meth c (MQ below (o_Qx D m_cls (some (.int r.1)) (m_cw ad ca ky ty rt Ni Np No Nx Nf Na Nh Nq Nj M0 r.2) A) args s 0 0 A) m_cls D A 6 187 [] (m_cw ad ca ky ty rt Ni Np No Nx Nf Na Nh Nq Nj M0 a0) [(0, .ref (ad 48)), (1, .int x1), (3, .int x3), (4, .int x4)] := by
  unfold m_MT_wide_j187 at h
  intro H locs ls hP hS hl
  have C0 := C
  obtain ⟨hx, hb, -, -, -, hown, hts, hK, -, -⟩ := C0
  refine lv_iload_n hx hb d_MT_wide_187 rfl (lv_at hl 2 rfl) ?_
  refine lv_iconst (v := (3:Int32)) hx hb d_MT_wide_188 (by decide) ?_
  refine lv_icmp_ne (tgt := 210) hx hb d_MT_wide_189 (by decide) (fun c11 => ?_) (fun c11 => ?_)
  · replace h := o_ff c11 h
    exact f_MT_wide_j210_b hE hKy C hDD n x1 x3 x4 a0 Ni Np No Nx Nf Na Nh Nq Nj M0 rt h _ _ _ hP hS (lv_sub hl [0, 1, 2, 3] rfl)
  · replace h := o_tt c11 h
    refine lv_iload hx hb d_MT_wide_192 (lv_at hl 3 rfl) ?_
    refine lv_ldc (v := (65536:Int32)) hx hb hown (hts _ k_9_3) d_MT_wide_194 ?_
    refine lv_ldc (v := (1114111:Int32)) hx hb hown (hts _ k_9_8) d_MT_wide_196 ?_
    obtain ⟨q8, hq8, h⟩ := o_bd_some h
    refine o_SN (st1 := [.int q8]) (w1 := (m_cw ad ca ky ty rt Ni Np No Nx Nf Na Nh Nq Nj M0 a0)) hE.1 C (e_MM_in hE hKy l x4 (65536:Int32) (1114111:Int32) Ni Np No Nx Nf Na Nh Nq Nj M0 a0 rt hq8) hP (hDD _ _ _ _ _ _ _ _ _ _ _ _) hS hl.1 (hE.2.1 _ _ _ C.2.2.2.2.2.2.2.2.2 _ nw_21) k_8_201 k_1_12 k_8_202 hs_MM_in rfl rfl ⟨(Nat.le_of_ble_eq_true rfl), (Nat.le_of_ble_eq_true rfl)⟩ rfl (Nat.le_of_ble_eq_true rfl) ⟨Nat.zero_le _, Nat.zero_le _⟩ rfl d_MT_wide_198 (fun H locs hP hS => ?_)
    refine lv_if_ne (tgt := 210) hx hb d_MT_wide_201 (by decide) (fun c13 => ?_) (fun c13 => ?_)
    · replace h := o_ff c13 h
      exact f_MT_wide_j210_b hE hKy C hDD n x1 x3 x4 a0 Ni Np No Nx Nf Na Nh Nq Nj M0 rt h _ _ _ hP hS (lv_sub hl [0, 1, 2, 3] rfl)
    · replace h := o_tt c13 h
      exact f_MT_wide_j204_b hE hKy C hDD n x1 a0 Ni Np No Nx Nf Na Nh Nq Nj M0 rt h _ _ _ hP hS (lv_sub hl [0, 1] rfl)
set_option maxHeartbeats 4000000 in
set_option maxRecDepth 100000 in
theorem f_MT_wide_j90_b {E : (Nat → Prop) → State → Heap → Prop} {p : Program} {l : Launch} {e : Env} {s : State} {m : MethodId} {args : Array Value} {below : List Frame} {meth : Method} {c : Code} {D : va_G} {ad kd sd vd xd : Nat → Nat} {ca : Nat → ClassId} {A : Nat → Prop} {ky ty : Nat → Option Nat} (hE : o_EK E kd sd vd xd) (hKy : m_KY ky ty sd) (C : o_Cx E p s m args meth c D m_cls (m_tys ca) "SchemaJudgeModel$Text" b_MT_wide (some .boolean) 6 cc_MT_wide A) (hDD : ∀ (rt : Nat) (Ni : SNI) (Np : SNP) (No : SNO) (Nx : SNX) (Nf : SNF) (Na : SNA) (Nh : SNH) (Nq : SNQ) (Nj : SNJ) (M0 : SMT) (M1 : SMT), va_D A (m_cw ad ca ky ty rt Ni Np No Nx Nf Na Nh Nq Nj M0 M1)) (n : Nat) (x1 : Int32) (x3 : Int32) (y0 : Int32) (a0 : SMT) (Ni : SNI) (Np : SNP) (No : SNO) (Nx : SNX) (Nf : SNF) (Na : SNA) (Nh : SNH) (Nq : SNQ) (Nj : SNJ) (M0 : SMT) (rt : Nat) {r : Int32 × SMT} (h : m_MT_wide_j90 n x1 x3 y0 a0 = some r) : o_At p l e rm_MT_wide s m args below meth c (MQ below (o_Qx D m_cls (some (.int r.1)) (m_cw ad ca ky ty rt Ni Np No Nx Nf Na Nh Nq Nj M0 r.2) A) args s 0 0 A) m_cls D A 6 90 [.int y0] (m_cw ad ca ky ty rt Ni Np No Nx Nf Na Nh Nq Nj M0 a0) [(0, .ref (ad 48)), (1, .int x1), (3, .int x3)] := by
  unfold m_MT_wide_j90 at h
  intro H locs ls hP hS hl
  have C0 := C
  obtain ⟨hx, hb, -, -, -, hown, hts, hK, -, -⟩ := C0
  refine lv_istore (lv' := [(4, .int y0), (0, .ref (ad 48)), (1, .int x1), (3, .int x3)]) hx hb d_MT_wide_90 hl (by decide) rfl (fun ls hl => ?_)
  refine lv_iload_n hx hb d_MT_wide_92 rfl (lv_at hl 3 rfl) ?_
  refine lv_if_ne (tgt := 102) hx hb d_MT_wide_93 (by decide) (fun c6 => ?_) (fun c6 => ?_)
  · replace h := o_ff c6 h
    refine lv_iconst (v := (1:Int32)) hx hb d_MT_wide_102 (by decide) ?_
    refine lv_istore (lv' := [(5, .int (1:Int32)), (4, .int y0), (0, .ref (ad 48)), (1, .int x1), (3, .int x3)]) hx hb d_MT_wide_103 hl (by decide) rfl (fun ls hl => ?_)
    obtain ⟨q5, hq5, h⟩ := o_bd_some h
    refine o_sim2 (AH := fun zz => o_At p l e rm_MT_wide s m args below meth c _ m_cls D A 6 105 [] (m_cw ad ca ky ty rt Ni Np No Nx Nf Na Nh Nq Nj M0 a0) [(0, .ref (ad 48)), (1, .int x1), (3, .int x3), (4, .int zz.1), (5, .int zz.2)]) (AX := fun qq => if qq.1 = 1 then o_At p l e rm_MT_wide s m args below meth c _ m_cls D A 6 131 [] (m_cw ad ca ky ty rt Ni Np No Nx Nf Na Nh Nq Nj M0 a0) [(0, .ref (ad 48)), (1, .int x1)] else o_At p l e rm_MT_wide s m args below meth c _ m_cls D A 6 162 [] (m_cw ad ca ky ty rt Ni Np No Nx Nf Na Nh Nq Nj M0 a0) [(0, .ref (ad 48)), (1, .int x1), (3, .int x3), (4, .int qq.2.1)]) (fun zz qq h h0 h1 => f_MT_wide_b105_b hE hKy C hDD n x1 x3 a0 Ni Np No Nx Nf Na Nh Nq Nj M0 rt zz qq h h0 h1) n _ q5 hq5 ?_ _ _ _ hP hS (lv_sub hl [2, 3, 4, 1, 0] rfl)
    by_cases c17 : q5.1 = 1
    · replace h := o_tt c17 h
      refine o_ip c17 ?_
      intro H locs ls hP hS hl
      refine lv_aload_n hx hb d_MT_wide_131 rfl (lv_at hl 0 rfl) ?_
      refine lv_iload_n hx hb d_MT_wide_132 rfl (lv_at hl 1 rfl) ?_
      obtain ⟨q6, hq6, h⟩ := o_bd_some h
      refine o_V (st1 := [.int q6.1]) (w1 := (m_cw ad ca ky ty rt Ni Np No Nx Nf Na Nh Nq Nj M0 q6.2)) hE.1 C (e_MT_bad_b hE hKy l x1 a0 Ni Np No Nx Nf Na Nh Nq Nj M0 rt hq6) hP (hDD _ _ _ _ _ _ _ _ _ _ _ _) hS hl.1 rfl mw_48 k_8_203 k_8_204 k_8_205 k_1_13 k_8_206 hv_MT_bad rfl rfl ⟨(Nat.le_of_ble_eq_true rfl), (Nat.le_of_ble_eq_true rfl)⟩ rfl (Nat.le_of_ble_eq_true rfl) ⟨Nat.zero_le _, Nat.zero_le _⟩ rfl d_MT_wide_133 (fun H locs hP hS => ?_)
      obtain ⟨g9, h⟩ := o_gd_some h
      cases h
      exact o_rz C (o_zb_nar g9) hP hS d_MT_wide_136
    replace h := o_ff c17 h
    refine o_in_ c17 ?_
    intro H locs ls hP hS hl
    refine lv_iload_n hx hb d_MT_wide_162 rfl (lv_at hl 2 rfl) ?_
    refine lv_iconst (v := (2:Int32)) hx hb d_MT_wide_163 (by decide) ?_
    refine lv_icmp_ne (tgt := 187) hx hb d_MT_wide_164 (by decide) (fun c10 => ?_) (fun c10 => ?_)
    · replace h := o_ff c10 h
      exact f_MT_wide_j187_b hE hKy C hDD n x1 x3 q5.2.1 a0 Ni Np No Nx Nf Na Nh Nq Nj M0 rt h _ _ _ hP hS (lv_sub hl [0, 1, 2, 3] rfl)
    · replace h := o_tt c10 h
      refine lv_iload hx hb d_MT_wide_167 (lv_at hl 3 rfl) ?_
      refine lv_sipush (v := (2048:Int32)) hx hb d_MT_wide_169 (by decide) ?_
      refine lv_icmp_lt (tgt := 204) hx hb d_MT_wide_172 (by decide) (fun c15 => ?_) (fun c15 => ?_)
      · replace h := o_tt c15 h
        exact f_MT_wide_j204_b hE hKy C hDD n x1 a0 Ni Np No Nx Nf Na Nh Nq Nj M0 rt h _ _ _ hP hS (lv_sub hl [0, 1] rfl)
      · replace h := o_ff c15 h
        refine lv_iload hx hb d_MT_wide_175 (lv_at hl 3 rfl) ?_
        refine lv_ldc (v := (55296:Int32)) hx hb hown (hts _ k_9_1) d_MT_wide_177 ?_
        refine lv_ldc (v := (57343:Int32)) hx hb hown (hts _ k_9_0) d_MT_wide_179 ?_
        obtain ⟨q10, hq10, h⟩ := o_bd_some h
        refine o_SN (st1 := [.int q10]) (w1 := (m_cw ad ca ky ty rt Ni Np No Nx Nf Na Nh Nq Nj M0 a0)) hE.1 C (e_MM_in hE hKy l q5.2.1 (55296:Int32) (57343:Int32) Ni Np No Nx Nf Na Nh Nq Nj M0 a0 rt hq10) hP (hDD _ _ _ _ _ _ _ _ _ _ _ _) hS hl.1 (hE.2.1 _ _ _ C.2.2.2.2.2.2.2.2.2 _ nw_21) k_8_201 k_1_12 k_8_202 hs_MM_in rfl rfl ⟨(Nat.le_of_ble_eq_true rfl), (Nat.le_of_ble_eq_true rfl)⟩ rfl (Nat.le_of_ble_eq_true rfl) ⟨Nat.zero_le _, Nat.zero_le _⟩ rfl d_MT_wide_181 (fun H locs hP hS => ?_)
        refine lv_if_ne (tgt := 204) hx hb d_MT_wide_184 (by decide) (fun c16 => ?_) (fun c16 => ?_)
        · replace h := o_ff c16 h
          exact f_MT_wide_j204_b hE hKy C hDD n x1 a0 Ni Np No Nx Nf Na Nh Nq Nj M0 rt h _ _ _ hP hS (lv_sub hl [0, 1] rfl)
        · replace h := o_tt c16 h
          exact f_MT_wide_j187_b hE hKy C hDD n x1 x3 q5.2.1 a0 Ni Np No Nx Nf Na Nh Nq Nj M0 rt h _ _ _ hP hS (lv_sub hl [0, 1, 2, 3] rfl)
  · replace h := o_tt c6 h
    refine lv_aload_n hx hb d_MT_wide_96 rfl (lv_at hl 1 rfl) ?_
    refine lv_iload_n hx hb d_MT_wide_97 rfl (lv_at hl 2 rfl) ?_
    obtain ⟨q11, hq11, h⟩ := o_bd_some h
    refine o_V (st1 := [.int q11.1]) (w1 := (m_cw ad ca ky ty rt Ni Np No Nx Nf Na Nh Nq Nj M0 q11.2)) hE.1 C (e_MT_bad_b hE hKy l x1 a0 Ni Np No Nx Nf Na Nh Nq Nj M0 rt hq11) hP (hDD _ _ _ _ _ _ _ _ _ _ _ _) hS hl.1 rfl mw_48 k_8_203 k_8_204 k_8_205 k_1_13 k_8_206 hv_MT_bad rfl rfl ⟨(Nat.le_of_ble_eq_true rfl), (Nat.le_of_ble_eq_true rfl)⟩ rfl (Nat.le_of_ble_eq_true rfl) ⟨Nat.zero_le _, Nat.zero_le _⟩ rfl d_MT_wide_98 (fun H locs hP hS => ?_)
    obtain ⟨g18, h⟩ := o_gd_some h
    cases h
    exact o_rz C (o_zb_nar g18) hP hS d_MT_wide_101
set_option maxHeartbeats 4000000 in
set_option maxRecDepth 100000 in
theorem f_MT_wide_j61_b {E : (Nat → Prop) → State → Heap → Prop} {p : Program} {l : Launch} {e : Env} {s : State} {m : MethodId} {args : Array Value} {below : List Frame} {meth : Method} {c : Code} {D : va_G} {ad kd sd vd xd : Nat → Nat} {ca : Nat → ClassId} {A : Nat → Prop} {ky ty : Nat → Option Nat} (hE : o_EK E kd sd vd xd) (hKy : m_KY ky ty sd) (C : o_Cx E p s m args meth c D m_cls (m_tys ca) "SchemaJudgeModel$Text" b_MT_wide (some .boolean) 6 cc_MT_wide A) (hDD : ∀ (rt : Nat) (Ni : SNI) (Np : SNP) (No : SNO) (Nx : SNX) (Nf : SNF) (Na : SNA) (Nh : SNH) (Nq : SNQ) (Nj : SNJ) (M0 : SMT) (M1 : SMT), va_D A (m_cw ad ca ky ty rt Ni Np No Nx Nf Na Nh Nq Nj M0 M1)) (n : Nat) (x1 : Int32) (x2 : Int32) (y0 : Int32) (a0 : SMT) (Ni : SNI) (Np : SNP) (No : SNO) (Nx : SNX) (Nf : SNF) (Na : SNA) (Nh : SNH) (Nq : SNQ) (Nj : SNJ) (M0 : SMT) (rt : Nat) {r : Int32 × SMT} (h : m_MT_wide_j61 n x1 x2 y0 a0 = some r) : o_At p l e rm_MT_wide s m args below meth c (MQ below (o_Qx D m_cls (some (.int r.1)) (m_cw ad ca ky ty rt Ni Np No Nx Nf Na Nh Nq Nj M0 r.2) A) args s 0 0 A) m_cls D A 6 61 [.int y0] (m_cw ad ca ky ty rt Ni Np No Nx Nf Na Nh Nq Nj M0 a0) [(0, .ref (ad 48)), (1, .int x1), (2, .int x2)] := by
  unfold m_MT_wide_j61 at h
  intro H locs ls hP hS hl
  have C0 := C
  obtain ⟨hx, hb, -, -, -, hown, hts, hK, -, -⟩ := C0
  refine lv_istore_n (lv' := [(3, .int y0), (0, .ref (ad 48)), (1, .int x1), (2, .int x2)]) hx hb d_MT_wide_61 rfl hl (by decide) rfl (fun ls hl => ?_)
  refine lv_iload_n hx hb d_MT_wide_62 rfl (lv_at hl 0 rfl) ?_
  refine lv_iconst (v := (1:Int32)) hx hb d_MT_wide_63 (by decide) ?_
  refine lv_icmp_ne (tgt := 74) hx hb d_MT_wide_64 (by decide) (fun c4 => ?_) (fun c4 => ?_)
  · replace h := o_ff c4 h
    refine lv_iload_n hx hb d_MT_wide_74 rfl (lv_at hl 0 rfl) ?_
    refine lv_iconst (v := (2:Int32)) hx hb d_MT_wide_75 (by decide) ?_
    refine lv_icmp_ne (tgt := 86) hx hb d_MT_wide_76 (by decide) (fun c5 => ?_) (fun c5 => ?_)
    · replace h := o_ff c5 h
      refine lv_iload_n hx hb d_MT_wide_86 rfl (lv_at hl 3 rfl) ?_
      refine lv_bipush (v := (7:Int32)) hx hb d_MT_wide_87 (by decide) ?_
      refine lv_iand hx hb d_MT_wide_89 ?_
      exact f_MT_wide_j90_b hE hKy C hDD n x1 y0 (x2 &&& (7:Int32)) a0 Ni Np No Nx Nf Na Nh Nq Nj M0 rt h _ _ _ hP hS (lv_sub hl [1, 2, 0] rfl)
    · replace h := o_tt c5 h
      refine lv_iload_n hx hb d_MT_wide_79 rfl (lv_at hl 3 rfl) ?_
      refine lv_bipush (v := (15:Int32)) hx hb d_MT_wide_80 (by decide) ?_
      refine lv_iand hx hb d_MT_wide_82 ?_
      refine lv_goto (tgt := 90) hx hb d_MT_wide_83 (by decide) ?_
      exact f_MT_wide_j90_b hE hKy C hDD n x1 y0 (x2 &&& (15:Int32)) a0 Ni Np No Nx Nf Na Nh Nq Nj M0 rt h _ _ _ hP hS (lv_sub hl [1, 2, 0] rfl)
  · replace h := o_tt c4 h
    refine lv_iload_n hx hb d_MT_wide_67 rfl (lv_at hl 3 rfl) ?_
    refine lv_bipush (v := (31:Int32)) hx hb d_MT_wide_68 (by decide) ?_
    refine lv_iand hx hb d_MT_wide_70 ?_
    refine lv_goto (tgt := 90) hx hb d_MT_wide_71 (by decide) ?_
    exact f_MT_wide_j90_b hE hKy C hDD n x1 y0 (x2 &&& (31:Int32)) a0 Ni Np No Nx Nf Na Nh Nq Nj M0 rt h _ _ _ hP hS (lv_sub hl [1, 2, 0] rfl)
set_option maxHeartbeats 4000000 in
set_option maxRecDepth 100000 in
theorem f_MT_wide_j42_b {E : (Nat → Prop) → State → Heap → Prop} {p : Program} {l : Launch} {e : Env} {s : State} {m : MethodId} {args : Array Value} {below : List Frame} {meth : Method} {c : Code} {D : va_G} {ad kd sd vd xd : Nat → Nat} {ca : Nat → ClassId} {A : Nat → Prop} {ky ty : Nat → Option Nat} (hE : o_EK E kd sd vd xd) (hKy : m_KY ky ty sd) (C : o_Cx E p s m args meth c D m_cls (m_tys ca) "SchemaJudgeModel$Text" b_MT_wide (some .boolean) 6 cc_MT_wide A) (hDD : ∀ (rt : Nat) (Ni : SNI) (Np : SNP) (No : SNO) (Nx : SNX) (Nf : SNF) (Na : SNA) (Nh : SNH) (Nq : SNQ) (Nj : SNJ) (M0 : SMT) (M1 : SMT), va_D A (m_cw ad ca ky ty rt Ni Np No Nx Nf Na Nh Nq Nj M0 M1)) (n : Nat) (x1 : Int32) (x2 : Int32) (a0 : SMT) (Ni : SNI) (Np : SNP) (No : SNO) (Nx : SNX) (Nf : SNF) (Na : SNA) (Nh : SNH) (Nq : SNQ) (Nj : SNJ) (M0 : SMT) (rt : Nat) {r : Int32 × SMT} (h : m_MT_wide_j42 n x1 x2 a0 = some r) : o_At p l e rm_MT_wide s m args below meth c (MQ below (o_Qx D m_cls (some (.int r.1)) (m_cw ad ca ky ty rt Ni Np No Nx Nf Na Nh Nq Nj M0 r.2) A) args s 0 0 A) m_cls D A 6 42 [] (m_cw ad ca ky ty rt Ni Np No Nx Nf Na Nh Nq Nj M0 a0) [(0, .ref (ad 48)), (1, .int x1), (2, .int x2)] := by
  unfold m_MT_wide_j42 at h
  intro H locs ls hP hS hl
  have C0 := C
  obtain ⟨hx, hb, -, -, -, hown, hts, hK, -, -⟩ := C0
  refine lv_iload_n hx hb d_MT_wide_42 rfl (lv_at hl 2 rfl) ?_
  refine lv_sipush (v := (240:Int32)) hx hb d_MT_wide_43 (by decide) ?_
  refine lv_icmp_lt (tgt := 60) hx hb d_MT_wide_46 (by decide) (fun c3 => ?_) (fun c3 => ?_)
  · replace h := o_tt c3 h
    refine lv_iconst (v := (0:Int32)) hx hb d_MT_wide_60 (by decide) ?_
    exact f_MT_wide_j61_b hE hKy C hDD n x1 x2 (0:Int32) a0 Ni Np No Nx Nf Na Nh Nq Nj M0 rt h _ _ _ hP hS (lv_sub hl [0, 1, 2] rfl)
  · replace h := o_ff c3 h
    refine lv_iload_n hx hb d_MT_wide_49 rfl (lv_at hl 2 rfl) ?_
    refine lv_sipush (v := (245:Int32)) hx hb d_MT_wide_50 (by decide) ?_
    refine lv_icmp_ge (tgt := 60) hx hb d_MT_wide_53 (by decide) (fun c19 => ?_) (fun c19 => ?_)
    · replace h := o_tt c19 h
      refine lv_iconst (v := (0:Int32)) hx hb d_MT_wide_60 (by decide) ?_
      exact f_MT_wide_j61_b hE hKy C hDD n x1 x2 (0:Int32) a0 Ni Np No Nx Nf Na Nh Nq Nj M0 rt h _ _ _ hP hS (lv_sub hl [0, 1, 2] rfl)
    · replace h := o_ff c19 h
      refine lv_iconst (v := (3:Int32)) hx hb d_MT_wide_56 (by decide) ?_
      refine lv_goto (tgt := 61) hx hb d_MT_wide_57 (by decide) ?_
      exact f_MT_wide_j61_b hE hKy C hDD n x1 x2 (3:Int32) a0 Ni Np No Nx Nf Na Nh Nq Nj M0 rt h _ _ _ hP hS (lv_sub hl [0, 1, 2] rfl)
set_option maxHeartbeats 4000000 in
set_option maxRecDepth 100000 in
theorem f_MT_wide_j24_b {E : (Nat → Prop) → State → Heap → Prop} {p : Program} {l : Launch} {e : Env} {s : State} {m : MethodId} {args : Array Value} {below : List Frame} {meth : Method} {c : Code} {D : va_G} {ad kd sd vd xd : Nat → Nat} {ca : Nat → ClassId} {A : Nat → Prop} {ky ty : Nat → Option Nat} (hE : o_EK E kd sd vd xd) (hKy : m_KY ky ty sd) (C : o_Cx E p s m args meth c D m_cls (m_tys ca) "SchemaJudgeModel$Text" b_MT_wide (some .boolean) 6 cc_MT_wide A) (hDD : ∀ (rt : Nat) (Ni : SNI) (Np : SNP) (No : SNO) (Nx : SNX) (Nf : SNF) (Na : SNA) (Nh : SNH) (Nq : SNQ) (Nj : SNJ) (M0 : SMT) (M1 : SMT), va_D A (m_cw ad ca ky ty rt Ni Np No Nx Nf Na Nh Nq Nj M0 M1)) (n : Nat) (x1 : Int32) (x2 : Int32) (a0 : SMT) (Ni : SNI) (Np : SNP) (No : SNO) (Nx : SNX) (Nf : SNF) (Na : SNA) (Nh : SNH) (Nq : SNQ) (Nj : SNJ) (M0 : SMT) (rt : Nat) {r : Int32 × SMT} (h : m_MT_wide_j24 n x1 x2 a0 = some r) : o_At p l e rm_MT_wide s m args below meth c (MQ below (o_Qx D m_cls (some (.int r.1)) (m_cw ad ca ky ty rt Ni Np No Nx Nf Na Nh Nq Nj M0 r.2) A) args s 0 0 A) m_cls D A 6 24 [] (m_cw ad ca ky ty rt Ni Np No Nx Nf Na Nh Nq Nj M0 a0) [(0, .ref (ad 48)), (1, .int x1), (2, .int x2)] := by
  unfold m_MT_wide_j24 at h
  intro H locs ls hP hS hl
  have C0 := C
  obtain ⟨hx, hb, -, -, -, hown, hts, hK, -, -⟩ := C0
  refine lv_iload_n hx hb d_MT_wide_24 rfl (lv_at hl 2 rfl) ?_
  refine lv_sipush (v := (224:Int32)) hx hb d_MT_wide_25 (by decide) ?_
  refine lv_icmp_lt (tgt := 42) hx hb d_MT_wide_28 (by decide) (fun c2 => ?_) (fun c2 => ?_)
  · replace h := o_tt c2 h
    exact f_MT_wide_j42_b hE hKy C hDD n x1 x2 a0 Ni Np No Nx Nf Na Nh Nq Nj M0 rt h _ _ _ hP hS (lv_sub hl [0, 1, 2] rfl)
  · replace h := o_ff c2 h
    refine lv_iload_n hx hb d_MT_wide_31 rfl (lv_at hl 2 rfl) ?_
    refine lv_sipush (v := (240:Int32)) hx hb d_MT_wide_32 (by decide) ?_
    refine lv_icmp_ge (tgt := 42) hx hb d_MT_wide_35 (by decide) (fun c20 => ?_) (fun c20 => ?_)
    · replace h := o_tt c20 h
      exact f_MT_wide_j42_b hE hKy C hDD n x1 x2 a0 Ni Np No Nx Nf Na Nh Nq Nj M0 rt h _ _ _ hP hS (lv_sub hl [0, 1, 2] rfl)
    · replace h := o_ff c20 h
      refine lv_iconst (v := (2:Int32)) hx hb d_MT_wide_38 (by decide) ?_
      refine lv_goto (tgt := 61) hx hb d_MT_wide_39 (by decide) ?_
      exact f_MT_wide_j61_b hE hKy C hDD n x1 x2 (2:Int32) a0 Ni Np No Nx Nf Na Nh Nq Nj M0 rt h _ _ _ hP hS (lv_sub hl [0, 1, 2] rfl)
set_option maxHeartbeats 4000000 in
set_option maxRecDepth 100000 in
theorem e_MT_wide_b {E : (Nat → Prop) → State → Heap → Prop} {D : va_G} {ad kd sd vd xd : Nat → Nat} {ca : Nat → ClassId} {ky ty : Nat → Option Nat} (hE : o_EK E kd sd vd xd) (hKy : m_KY ky ty sd) (l : Launch) (n : Nat) (x1 : Int32) (a0 : SMT) (Ni : SNI) (Np : SNP) (No : SNO) (Nx : SNX) (Nf : SNF) (Na : SNA) (Nh : SNH) (Nq : SNQ) (Nj : SNJ) (M0 : SMT) (rt : Nat) {r : Int32 × SMT} (h : m_MT_wide n x1 a0 = some r) : o_Cn E l D m_cls (m_tys ca) y_MT_wide cc_MT_wide rm_MT_wide [.ref (ad 48), .int x1] (m_cw ad ca ky ty rt Ni Np No Nx Nf Na Nh Nq Nj M0 a0) (m_cw ad ca ky ty rt Ni Np No Nx Nf Na Nh Nq Nj M0 r.2) (some (.int r.1)) := by
  refine o_Cn_of (by decide) (Nat.le_of_ble_eq_true rfl) ?_
  intro p e s m below meth c A ls C hD hP hS hl
  have hDD : ∀ (rt : Nat) (Ni : SNI) (Np : SNP) (No : SNO) (Nx : SNX) (Nf : SNF) (Na : SNA) (Nh : SNH) (Nq : SNQ) (Nj : SNJ) (M0 : SMT) (M1 : SMT), va_D A (m_cw ad ca ky ty rt Ni Np No Nx Nf Na Nh Nq Nj M0 M1) := fun _ _ _ _ _ _ _ _ _ _ _ _ => o_D_map hD rfl
  have hl : lv_has ls 6 [(0, .ref (ad 48)), (1, .int x1)] := hl
  unfold m_MT_wide at h
  have C0 := C
  obtain ⟨hx, hb, -, -, -, hown, hts, hK, -, -⟩ := C0
  refine lv_aload_n hx hb d_MT_wide_0 rfl (lv_at hl 0 rfl) ?_
  refine lv_iload_n hx hb d_MT_wide_1 rfl (lv_at hl 1 rfl) ?_
  obtain ⟨q1, hq1, h⟩ := o_bd_some h
  refine o_V (st1 := [.int q1]) (w1 := (m_cw ad ca ky ty rt Ni Np No Nx Nf Na Nh Nq Nj M0 a0)) hE.1 C (e_MT_c_b hE hKy l x1 a0 Ni Np No Nx Nf Na Nh Nq Nj M0 rt hq1) hP (hDD _ _ _ _ _ _ _ _ _ _ _ _) hS hl.1 rfl mw_48 k_8_192 k_8_193 k_8_194 k_1_13 k_8_195 hv_MT_c rfl rfl ⟨(Nat.le_of_ble_eq_true rfl), (Nat.le_of_ble_eq_true rfl)⟩ rfl (Nat.le_of_ble_eq_true rfl) ⟨Nat.zero_le _, Nat.zero_le _⟩ rfl d_MT_wide_2 (fun H locs hP hS => ?_)
  refine lv_istore_n (lv' := [(2, .int q1), (0, .ref (ad 48)), (1, .int x1)]) hx hb d_MT_wide_5 rfl hl (by decide) rfl (fun ls hl => ?_)
  refine lv_iload_n hx hb d_MT_wide_6 rfl (lv_at hl 0 rfl) ?_
  refine lv_sipush (v := (194:Int32)) hx hb d_MT_wide_7 (by decide) ?_
  refine lv_icmp_lt (tgt := 24) hx hb d_MT_wide_10 (by decide) (fun c1 => ?_) (fun c1 => ?_)
  · replace h := o_tt c1 h
    exact f_MT_wide_j24_b hE hKy C hDD n x1 q1 a0 Ni Np No Nx Nf Na Nh Nq Nj M0 rt h _ _ _ hP hS (lv_sub hl [1, 2, 0] rfl)
  · replace h := o_ff c1 h
    refine lv_iload_n hx hb d_MT_wide_13 rfl (lv_at hl 0 rfl) ?_
    refine lv_sipush (v := (224:Int32)) hx hb d_MT_wide_14 (by decide) ?_
    refine lv_icmp_ge (tgt := 24) hx hb d_MT_wide_17 (by decide) (fun c21 => ?_) (fun c21 => ?_)
    · replace h := o_tt c21 h
      exact f_MT_wide_j24_b hE hKy C hDD n x1 q1 a0 Ni Np No Nx Nf Na Nh Nq Nj M0 rt h _ _ _ hP hS (lv_sub hl [1, 2, 0] rfl)
    · replace h := o_ff c21 h
      refine lv_iconst (v := (1:Int32)) hx hb d_MT_wide_20 (by decide) ?_
      refine lv_goto (tgt := 61) hx hb d_MT_wide_21 (by decide) ?_
      exact f_MT_wide_j61_b hE hKy C hDD n x1 q1 (1:Int32) a0 Ni Np No Nx Nf Na Nh Nq Nj M0 rt h _ _ _ hP hS (lv_sub hl [1, 2, 0] rfl)
set_option maxHeartbeats 4000000 in
set_option maxRecDepth 100000 in
theorem f_MT_string_b27_a {E : (Nat → Prop) → State → Heap → Prop} {p : Program} {l : Launch} {e : Env} {s : State} {m : MethodId} {args : Array Value} {below : List Frame} {meth : Method} {c : Code} {D : va_G} {ad kd sd vd xd : Nat → Nat} {ca : Nat → ClassId} {A : Nat → Prop} {ky ty : Nat → Option Nat} {Q : State → Prop} (hE : o_EK E kd sd vd xd) (hKy : m_KY ky ty sd) (C : o_Cx E p s m args meth c D m_cls (m_tys ca) "SchemaJudgeModel$Text" b_MT_string (some .boolean) 5 cc_MT_string A) (hDD : ∀ (rt : Nat) (Ni : SNI) (Np : SNP) (No : SNO) (Nx : SNX) (Nf : SNF) (Na : SNA) (Nh : SNH) (Nq : SNQ) (Nj : SNJ) (M0 : SMT) (M1 : SMT), va_D A (m_cw ad ca ky ty rt Ni Np No Nx Nf Na Nh Nq Nj M0 M1)) (n : Nat) (u27_x2 : Int32) (u27_Ni : SNI) (u27_Np : SNP) (u27_No : SNO) (u27_Nx : SNX) (u27_Nf : SNF) (u27_Na : SNA) (u27_Nh : SNH) (u27_Nq : SNQ) (u27_Nj : SNJ) (u27_M1 : SMT) (u27_rt : Nat) (z : SMT) (q : Nat × SMT) (h : m_MT_string_b27 n u27_x2 z = some q) (h0 : q.1 = 0 → o_At p l e rm_MT_string s m args below meth c Q m_cls D A 5 27 [] (m_cw ad ca ky ty u27_rt u27_Ni u27_Np u27_No u27_Nx u27_Nf u27_Na u27_Nh u27_Nq u27_Nj q.2 u27_M1) [(0, .ref (ad 33)), (2, .int u27_x2)]) (h1 : q.1 ≠ 0 → (if q.1 = 1 then o_At p l e rm_MT_string s m args below meth c Q m_cls D A 5 48 [] (m_cw ad ca ky ty u27_rt u27_Ni u27_Np u27_No u27_Nx u27_Nf u27_Na u27_Nh u27_Nq u27_Nj q.2 u27_M1) [(0, .ref (ad 33))] else if q.1 = 2 then o_At p l e rm_MT_string s m args below meth c Q m_cls D A 5 63 [] (m_cw ad ca ky ty u27_rt u27_Ni u27_Np u27_No u27_Nx u27_Nf u27_Na u27_Nh u27_Nq u27_Nj q.2 u27_M1) [(0, .ref (ad 33)), (2, .int u27_x2)] else if q.1 = 3 then o_At p l e rm_MT_string s m args below meth c Q m_cls D A 5 107 [] (m_cw ad ca ky ty u27_rt u27_Ni u27_Np u27_No u27_Nx u27_Nf u27_Na u27_Nh u27_Nq u27_Nj q.2 u27_M1) [] else if q.1 = 4 then o_At p l e rm_MT_string s m args below meth c Q m_cls D A 5 126 [] (m_cw ad ca ky ty u27_rt u27_Ni u27_Np u27_No u27_Nx u27_Nf u27_Na u27_Nh u27_Nq u27_Nj q.2 u27_M1) [] else o_At p l e rm_MT_string s m args below meth c Q m_cls D A 5 150 [] (m_cw ad ca ky ty u27_rt u27_Ni u27_Np u27_No u27_Nx u27_Nf u27_Na u27_Nh u27_Nq u27_Nj q.2 u27_M1) [])) : o_At p l e rm_MT_string s m args below meth c Q m_cls D A 5 27 [] (m_cw ad ca ky ty u27_rt u27_Ni u27_Np u27_No u27_Nx u27_Nf u27_Na u27_Nh u27_Nq u27_Nj z u27_M1) [(0, .ref (ad 33)), (2, .int u27_x2)] := by
  unfold m_MT_string_b27 at h
  intro H locs ls hP hS hl
  have C0 := C
  obtain ⟨hx, hb, -, -, -, hown, hts, hK, -, -⟩ := C0
  refine lv_aload_n hx hb d_MT_string_27 rfl (lv_at hl 0 rfl) ?_
  refine lv_aload_n hx hb d_MT_string_28 rfl (lv_at hl 0 rfl) ?_
  refine o_get (v := .int (MT_at z)) C in_MT hP 33 mw_33 rfl 15 (by decide) k_7_129 rfl rfl d_MT_string_29 ?_
  obtain ⟨q2, hq2, h⟩ := o_bd_some h
  refine o_V (st1 := [.int q2]) (w1 := (m_cw ad ca ky ty u27_rt u27_Ni u27_Np u27_No u27_Nx u27_Nf u27_Na u27_Nh u27_Nq u27_Nj z u27_M1)) hE.1 C (e_MT_c_a hE hKy l (MT_at z) z u27_Ni u27_Np u27_No u27_Nx u27_Nf u27_Na u27_Nh u27_Nq u27_Nj u27_M1 u27_rt hq2) hP (hDD _ _ _ _ _ _ _ _ _ _ _ _) hS hl.1 rfl mw_33 k_8_192 k_8_193 k_8_194 k_1_13 k_8_195 hv_MT_c rfl rfl ⟨(Nat.le_of_ble_eq_true rfl), (Nat.le_of_ble_eq_true rfl)⟩ rfl (Nat.le_of_ble_eq_true rfl) ⟨Nat.zero_le _, Nat.zero_le _⟩ rfl d_MT_string_32 (fun H locs hP hS => ?_)
  refine lv_istore_n (lv' := [(3, .int q2), (0, .ref (ad 33)), (2, .int u27_x2)]) hx hb d_MT_string_35 rfl hl (by decide) rfl (fun ls hl => ?_)
  refine lv_aload_n hx hb d_MT_string_36 rfl (lv_at hl 1 rfl) ?_
  refine o_get (v := .int (MT_at z)) C in_MT hP 33 mw_33 rfl 15 (by decide) k_7_129 rfl rfl d_MT_string_37 ?_
  refine lv_topi (fun x4_40 ex4_40 => ?_)
  replace h := o_nm_at ex4_40 h
  refine lv_istore (lv' := [(4, .int x4_40), (3, .int q2), (0, .ref (ad 33)), (2, .int u27_x2)]) hx hb d_MT_string_40 hl (by decide) rfl (fun ls hl => ?_)
  refine lv_iload_n hx hb d_MT_string_42 rfl (lv_at hl 1 rfl) ?_
  refine lv_bipush (v := (32:Int32)) hx hb d_MT_string_43 (by decide) ?_
  refine lv_icmp_ge (tgt := 57) hx hb d_MT_string_45 (by decide) (fun c2 => ?_) (fun c2 => ?_)
  · replace h := o_tt c2 h
    refine lv_iload_n hx hb d_MT_string_57 rfl (lv_at hl 1 rfl) ?_
    refine lv_bipush (v := (34:Int32)) hx hb d_MT_string_58 (by decide) ?_
    refine lv_icmp_ne (tgt := 92) hx hb d_MT_string_60 (by decide) (fun c3 => ?_) (fun c3 => ?_)
    · replace h := o_ff c3 h
      refine lv_iload_n hx hb d_MT_string_92 rfl (lv_at hl 1 rfl) ?_
      refine lv_bipush (v := (92:Int32)) hx hb d_MT_string_93 (by decide) ?_
      refine lv_icmp_ne (tgt := 109) hx hb d_MT_string_95 (by decide) (fun c4 => ?_) (fun c4 => ?_)
      · replace h := o_ff c4 h
        refine lv_iload_n hx hb d_MT_string_109 rfl (lv_at hl 1 rfl) ?_
        refine lv_sipush (v := (128:Int32)) hx hb d_MT_string_110 (by decide) ?_
        refine lv_icmp_ge (tgt := 141) hx hb d_MT_string_113 (by decide) (fun c5 => ?_) (fun c5 => ?_)
        · replace h := o_tt c5 h
          refine lv_aload_n hx hb d_MT_string_141 rfl (lv_at hl 2 rfl) ?_
          refine lv_iload hx hb d_MT_string_142 (lv_at hl 0 rfl) ?_
          obtain ⟨q3, hq3, h⟩ := o_bd_some h
          refine o_V (st1 := [.int q3.1]) (w1 := (m_cw ad ca ky ty u27_rt u27_Ni u27_Np u27_No u27_Nx u27_Nf u27_Na u27_Nh u27_Nq u27_Nj q3.2 u27_M1)) hE.1 C (e_MT_wide_a hE hKy l n x4_40 z u27_Ni u27_Np u27_No u27_Nx u27_Nf u27_Na u27_Nh u27_Nq u27_Nj u27_M1 u27_rt hq3) hP (hDD _ _ _ _ _ _ _ _ _ _ _ _) hS hl.1 rfl mw_33 k_9_4 k_9_5 k_9_6 k_1_13 k_9_7 hv_MT_wide rfl rfl ⟨(Nat.le_of_ble_eq_true rfl), (Nat.le_of_ble_eq_true rfl)⟩ rfl (Nat.le_of_ble_eq_true rfl) ⟨Nat.zero_le _, Nat.zero_le _⟩ rfl d_MT_string_144 (fun H locs hP hS => ?_)
          refine lv_if_ne (tgt := 152) hx hb d_MT_string_147 (by decide) (fun c6 => ?_) (fun c6 => ?_)
          · replace h := o_ff c6 h
            refine lv_goto (tgt := 27) hx hb d_MT_string_152 (by decide) ?_
            cases h
            exact h0 rfl _ _ _ hP hS (lv_sub hl [2, 3] rfl)
          · replace h := o_tt c6 h
            cases h
            exact h1 (Nat.succ_ne_zero 4) _ _ _ hP hS (lv_sub hl [] rfl)
        · replace h := o_ff c5 h
          refine lv_aload_n hx hb d_MT_string_116 rfl (lv_at hl 2 rfl) ?_
          refine lv_iload_n hx hb d_MT_string_117 rfl (lv_at hl 1 rfl) ?_
          refine lv_iload hx hb d_MT_string_118 (lv_at hl 0 rfl) ?_
          obtain ⟨q4, hq4, h⟩ := o_bd_some h
          refine o_V (st1 := [.int q4.1]) (w1 := (m_cw ad ca ky ty u27_rt u27_Ni u27_Np u27_No u27_Nx u27_Nf u27_Na u27_Nh u27_Nq u27_Nj q4.2 u27_M1)) hE.1 C (e_MT_put_a hE hKy l q2 x4_40 z u27_Ni u27_Np u27_No u27_Nx u27_Nf u27_Na u27_Nh u27_Nq u27_Nj u27_M1 u27_rt hq4) hP (hDD _ _ _ _ _ _ _ _ _ _ _ _) hS hl.1 rfl mw_33 k_8_228 k_8_229 k_8_230 k_1_13 k_8_231 hv_MT_put rfl rfl ⟨(Nat.le_of_ble_eq_true rfl), (Nat.le_of_ble_eq_true rfl)⟩ rfl (Nat.le_of_ble_eq_true rfl) ⟨Nat.zero_le _, Nat.zero_le _⟩ rfl d_MT_string_120 (fun H locs hP hS => ?_)
          refine lv_if_ne (tgt := 128) hx hb d_MT_string_123 (by decide) (fun c7 => ?_) (fun c7 => ?_)
          · replace h := o_ff c7 h
            refine lv_aload_n hx hb d_MT_string_128 rfl (lv_at hl 2 rfl) ?_
            refine lv_dup hx hb d_MT_string_129 rfl ?_
            refine o_get (v := .int (MT_at q4.2)) C in_MT hP 33 mw_33 rfl 15 (by decide) k_7_129 rfl rfl d_MT_string_130 ?_
            refine lv_iconst (v := (1:Int32)) hx hb d_MT_string_133 (by decide) ?_
            refine lv_iadd hx hb d_MT_string_134 ?_
            refine o_put (v := .int ((MT_at q4.2) + (1:Int32))) (ty := .int) (w1 := (m_cw ad ca ky ty u27_rt u27_Ni u27_Np u27_No u27_Nx u27_Nf u27_Na u27_Nh u27_Nq u27_Nj (MT_mk (MT_text q4.2) (MT_kind q4.2) (MT_place q4.2) (MT_many q4.2) (MT_parent q4.2) (MT_power q4.2) (MT_first q4.2) (MT_next q4.2) (MT_name q4.2) (MT_from q4.2) (MT_characters q4.2) (MT_digits q4.2) (MT_minus q4.2) (MT_values q4.2) (MT_letters q4.2) ((MT_at q4.2) + (1:Int32)) (MT_wrong q4.2) (MT_used q4.2) (MT_written q4.2) (MT_left q4.2)) u27_M1)) C in_MT t_MT t_MT_ok n_MT hP (hDD _ _ _ _ _ _ _ _ _ _ _ _) hS 33 mw_33 rfl 15 (by decide) k_7_129 rfl rfl (by decide +kernel) rfl rfl (Nat.le_of_ble_eq_true rfl) rfl d_MT_string_135 (fun H locs hP hS => ?_)
            refine lv_goto (tgt := 152) hx hb d_MT_string_138 (by decide) ?_
            refine lv_goto (tgt := 27) hx hb d_MT_string_152 (by decide) ?_
            cases h
            exact h0 rfl _ _ _ hP hS (lv_sub hl [2, 3] rfl)
          · replace h := o_tt c7 h
            cases h
            exact h1 (Nat.succ_ne_zero 3) _ _ _ hP hS (lv_sub hl [] rfl)
      · replace h := o_tt c4 h
        refine lv_aload_n hx hb d_MT_string_98 rfl (lv_at hl 2 rfl) ?_
        refine lv_iload hx hb d_MT_string_99 (lv_at hl 0 rfl) ?_
        obtain ⟨q5, hq5, h⟩ := o_bd_some h
        refine o_V (st1 := [.int q5.1]) (w1 := (m_cw ad ca ky ty u27_rt u27_Ni u27_Np u27_No u27_Nx u27_Nf u27_Na u27_Nh u27_Nq u27_Nj q5.2 u27_M1)) hE.1 C (e_MT_escape_a hE hKy l n x4_40 z u27_Ni u27_Np u27_No u27_Nx u27_Nf u27_Na u27_Nh u27_Nq u27_Nj u27_M1 u27_rt hq5) hP (hDD _ _ _ _ _ _ _ _ _ _ _ _) hS hl.1 rfl mw_33 k_8_224 k_8_225 k_8_226 k_1_13 k_8_227 hv_MT_escape rfl rfl ⟨(Nat.le_of_ble_eq_true rfl), (Nat.le_of_ble_eq_true rfl)⟩ rfl (Nat.le_of_ble_eq_true rfl) ⟨Nat.zero_le _, Nat.zero_le _⟩ rfl d_MT_string_101 (fun H locs hP hS => ?_)
        refine lv_if_ne (tgt := 152) hx hb d_MT_string_104 (by decide) (fun c8 => ?_) (fun c8 => ?_)
        · replace h := o_ff c8 h
          refine lv_goto (tgt := 27) hx hb d_MT_string_152 (by decide) ?_
          cases h
          exact h0 rfl _ _ _ hP hS (lv_sub hl [2, 3] rfl)
        · replace h := o_tt c8 h
          cases h
          exact h1 (Nat.succ_ne_zero 2) _ _ _ hP hS (lv_sub hl [] rfl)
    · replace h := o_tt c3 h
      cases h
      exact h1 (Nat.succ_ne_zero 1) _ _ _ hP hS (lv_sub hl [2, 3] rfl)
  · replace h := o_ff c2 h
    cases h
    exact h1 (Nat.succ_ne_zero 0) _ _ _ hP hS (lv_sub hl [2] rfl)
set_option maxHeartbeats 4000000 in
set_option maxRecDepth 100000 in
theorem e_MT_string_a {E : (Nat → Prop) → State → Heap → Prop} {D : va_G} {ad kd sd vd xd : Nat → Nat} {ca : Nat → ClassId} {ky ty : Nat → Option Nat} (hE : o_EK E kd sd vd xd) (hKy : m_KY ky ty sd) (l : Launch) (n : Nat) (x1 : Int32) (a0 : SMT) (Ni : SNI) (Np : SNP) (No : SNO) (Nx : SNX) (Nf : SNF) (Na : SNA) (Nh : SNH) (Nq : SNQ) (Nj : SNJ) (M1 : SMT) (rt : Nat) {r : Int32 × SMT} (h : m_MT_string n x1 a0 = some r) : o_Cn E l D m_cls (m_tys ca) y_MT_string cc_MT_string rm_MT_string [.ref (ad 33), .int x1] (m_cw ad ca ky ty rt Ni Np No Nx Nf Na Nh Nq Nj a0 M1) (m_cw ad ca ky ty rt Ni Np No Nx Nf Na Nh Nq Nj r.2 M1) (some (.int r.1)) := by
  refine o_Cn_of (by decide) (Nat.le_of_ble_eq_true rfl) ?_
  intro p e s m below meth c A ls C hD hP hS hl
  have hDD : ∀ (rt : Nat) (Ni : SNI) (Np : SNP) (No : SNO) (Nx : SNX) (Nf : SNF) (Na : SNA) (Nh : SNH) (Nq : SNQ) (Nj : SNJ) (M0 : SMT) (M1 : SMT), va_D A (m_cw ad ca ky ty rt Ni Np No Nx Nf Na Nh Nq Nj M0 M1) := fun _ _ _ _ _ _ _ _ _ _ _ _ => o_D_map hD rfl
  have hl : lv_has ls 5 [(0, .ref (ad 33)), (1, .int x1)] := hl
  unfold m_MT_string at h
  have C0 := C
  obtain ⟨hx, hb, -, -, -, hown, hts, hK, -, -⟩ := C0
  refine lv_aload_n hx hb d_MT_string_0 rfl (lv_at hl 0 rfl) ?_
  refine lv_iload_n hx hb d_MT_string_1 rfl (lv_at hl 1 rfl) ?_
  refine lv_iconst (v := (4:Int32)) hx hb d_MT_string_2 (by decide) ?_
  obtain ⟨q1, hq1, h⟩ := o_bd_some h
  refine o_V (st1 := [.int q1.1]) (w1 := (m_cw ad ca ky ty rt Ni Np No Nx Nf Na Nh Nq Nj q1.2 M1)) hE.1 C (e_MT_fresh_a hE hKy l x1 (4:Int32) a0 Ni Np No Nx Nf Na Nh Nq Nj M1 rt hq1) hP (hDD _ _ _ _ _ _ _ _ _ _ _ _) hS hl.1 rfl mw_33 k_8_212 k_8_213 k_8_214 k_1_13 k_8_215 hv_MT_fresh rfl rfl ⟨(Nat.le_of_ble_eq_true rfl), (Nat.le_of_ble_eq_true rfl)⟩ rfl (Nat.le_of_ble_eq_true rfl) ⟨Nat.zero_le _, Nat.zero_le _⟩ rfl d_MT_string_3 (fun H locs hP hS => ?_)
  refine lv_istore_n (lv' := [(2, .int q1.1), (0, .ref (ad 33)), (1, .int x1)]) hx hb d_MT_string_6 rfl hl (by decide) rfl (fun ls hl => ?_)
  refine lv_aload_n hx hb d_MT_string_7 rfl (lv_at hl 1 rfl) ?_
  refine o_get (v := .ref (ad 43)) C in_MT hP 33 mw_33 rfl 9 (by decide) k_7_118 rfl rfl d_MT_string_8 ?_
  refine lv_iload_n hx hb d_MT_string_11 rfl (lv_at hl 0 rfl) ?_
  refine lv_aload_n hx hb d_MT_string_12 rfl (lv_at hl 1 rfl) ?_
  refine o_get (v := .int (MT_used q1.2)) C in_MT hP 33 mw_33 rfl 17 (by decide) k_7_131 rfl rfl d_MT_string_13 ?_
  obtain ⟨g1, h⟩ := o_gd_some h
  refine o_iast (f := (MT_from q1.2)) (w1 := (m_cw ad ca ky ty rt Ni Np No Nx Nf Na Nh Nq Nj (MT_mk (MT_text q1.2) (MT_kind q1.2) (MT_place q1.2) (MT_many q1.2) (MT_parent q1.2) (MT_power q1.2) (MT_first q1.2) (MT_next q1.2) (MT_name q1.2) (upd (MT_from q1.2) q1.1.toNatClampNeg (MT_used q1.2)) (MT_characters q1.2) (MT_digits q1.2) (MT_minus q1.2) (MT_values q1.2) (MT_letters q1.2) (MT_at q1.2) (MT_wrong q1.2) (MT_used q1.2) (MT_written q1.2) (MT_left q1.2)) M1)) C hP (hDD _ _ _ _ _ _ _ _ _ _ _ _) hS 43 41 mw_43 rfl g1 rfl d_MT_string_16 (fun H locs hP hS => ?_)
  refine lv_aload_n hx hb d_MT_string_17 rfl (lv_at hl 1 rfl) ?_
  refine lv_dup hx hb d_MT_string_18 rfl ?_
  refine o_get (v := .int (MT_at q1.2)) C in_MT hP 33 mw_33 rfl 15 (by decide) k_7_129 rfl rfl d_MT_string_19 ?_
  refine lv_iconst (v := (1:Int32)) hx hb d_MT_string_22 (by decide) ?_
  refine lv_iadd hx hb d_MT_string_23 ?_
  refine o_put (v := .int ((MT_at q1.2) + (1:Int32))) (ty := .int) (w1 := (m_cw ad ca ky ty rt Ni Np No Nx Nf Na Nh Nq Nj (MT_mk (MT_text q1.2) (MT_kind q1.2) (MT_place q1.2) (MT_many q1.2) (MT_parent q1.2) (MT_power q1.2) (MT_first q1.2) (MT_next q1.2) (MT_name q1.2) (upd (MT_from q1.2) q1.1.toNatClampNeg (MT_used q1.2)) (MT_characters q1.2) (MT_digits q1.2) (MT_minus q1.2) (MT_values q1.2) (MT_letters q1.2) ((MT_at q1.2) + (1:Int32)) (MT_wrong q1.2) (MT_used q1.2) (MT_written q1.2) (MT_left q1.2)) M1)) C in_MT t_MT t_MT_ok n_MT hP (hDD _ _ _ _ _ _ _ _ _ _ _ _) hS 33 mw_33 rfl 15 (by decide) k_7_129 rfl rfl (by decide +kernel) rfl rfl (Nat.le_of_ble_eq_true rfl) rfl d_MT_string_24 (fun H locs hP hS => ?_)
  obtain ⟨q6, hq6, h⟩ := o_bd_some h
  refine o_sim2 (AH := fun zz => o_At p l e rm_MT_string s m _ below meth c _ m_cls D A 5 27 [] (m_cw ad ca ky ty rt Ni Np No Nx Nf Na Nh Nq Nj zz M1) [(0, .ref (ad 33)), (2, .int q1.1)]) (AX := fun qq => if qq.1 = 1 then o_At p l e rm_MT_string s m _ below meth c _ m_cls D A 5 48 [] (m_cw ad ca ky ty rt Ni Np No Nx Nf Na Nh Nq Nj qq.2 M1) [(0, .ref (ad 33))] else if qq.1 = 2 then o_At p l e rm_MT_string s m _ below meth c _ m_cls D A 5 63 [] (m_cw ad ca ky ty rt Ni Np No Nx Nf Na Nh Nq Nj qq.2 M1) [(0, .ref (ad 33)), (2, .int q1.1)] else if qq.1 = 3 then o_At p l e rm_MT_string s m _ below meth c _ m_cls D A 5 107 [] (m_cw ad ca ky ty rt Ni Np No Nx Nf Na Nh Nq Nj qq.2 M1) [] else if qq.1 = 4 then o_At p l e rm_MT_string s m _ below meth c _ m_cls D A 5 126 [] (m_cw ad ca ky ty rt Ni Np No Nx Nf Na Nh Nq Nj qq.2 M1) [] else o_At p l e rm_MT_string s m _ below meth c _ m_cls D A 5 150 [] (m_cw ad ca ky ty rt Ni Np No Nx Nf Na Nh Nq Nj qq.2 M1) []) (fun zz qq h h0 h1 => f_MT_string_b27_a hE hKy C hDD n q1.1 Ni Np No Nx Nf Na Nh Nq Nj M1 rt zz qq h h0 h1) n _ q6 hq6 ?_ _ _ _ hP hS (lv_sub hl [1, 0] rfl)
  by_cases c12 : q6.1 = 1
  · replace h := o_tt c12 h
    refine o_ip c12 ?_
    intro H locs ls hP hS hl
    refine lv_aload_n hx hb d_MT_string_48 rfl (lv_at hl 0 rfl) ?_
    refine lv_aload_n hx hb d_MT_string_49 rfl (lv_at hl 0 rfl) ?_
    refine o_get (v := .int (MT_at q6.2)) C in_MT hP 33 mw_33 rfl 15 (by decide) k_7_129 rfl rfl d_MT_string_50 ?_
    obtain ⟨q7, hq7, h⟩ := o_bd_some h
    refine o_V (st1 := [.int q7.1]) (w1 := (m_cw ad ca ky ty rt Ni Np No Nx Nf Na Nh Nq Nj q7.2 M1)) hE.1 C (e_MT_bad_a hE hKy l (MT_at q6.2) q6.2 Ni Np No Nx Nf Na Nh Nq Nj M1 rt hq7) hP (hDD _ _ _ _ _ _ _ _ _ _ _ _) hS hl.1 rfl mw_33 k_8_203 k_8_204 k_8_205 k_1_13 k_8_206 hv_MT_bad rfl rfl ⟨(Nat.le_of_ble_eq_true rfl), (Nat.le_of_ble_eq_true rfl)⟩ rfl (Nat.le_of_ble_eq_true rfl) ⟨Nat.zero_le _, Nat.zero_le _⟩ rfl d_MT_string_53 (fun H locs hP hS => ?_)
    obtain ⟨g9, h⟩ := o_gd_some h
    cases h
    exact o_rz C (o_zb_nar g9) hP hS d_MT_string_56
  replace h := o_ff c12 h
  refine o_in_ c12 ?_
  by_cases c13 : q6.1 = 2
  · replace h := o_tt c13 h
    refine o_ip c13 ?_
    intro H locs ls hP hS hl
    refine lv_aload_n hx hb d_MT_string_63 rfl (lv_at hl 0 rfl) ?_
    refine lv_dup hx hb d_MT_string_64 rfl ?_
    refine o_get (v := .int (MT_at q6.2)) C in_MT hP 33 mw_33 rfl 15 (by decide) k_7_129 rfl rfl d_MT_string_65 ?_
    refine lv_iconst (v := (1:Int32)) hx hb d_MT_string_68 (by decide) ?_
    refine lv_iadd hx hb d_MT_string_69 ?_
    refine o_put (v := .int ((MT_at q6.2) + (1:Int32))) (ty := .int) (w1 := (m_cw ad ca ky ty rt Ni Np No Nx Nf Na Nh Nq Nj (MT_mk (MT_text q6.2) (MT_kind q6.2) (MT_place q6.2) (MT_many q6.2) (MT_parent q6.2) (MT_power q6.2) (MT_first q6.2) (MT_next q6.2) (MT_name q6.2) (MT_from q6.2) (MT_characters q6.2) (MT_digits q6.2) (MT_minus q6.2) (MT_values q6.2) (MT_letters q6.2) ((MT_at q6.2) + (1:Int32)) (MT_wrong q6.2) (MT_used q6.2) (MT_written q6.2) (MT_left q6.2)) M1)) C in_MT t_MT t_MT_ok n_MT hP (hDD _ _ _ _ _ _ _ _ _ _ _ _) hS 33 mw_33 rfl 15 (by decide) k_7_129 rfl rfl (by decide +kernel) rfl rfl (Nat.le_of_ble_eq_true rfl) rfl d_MT_string_70 (fun H locs hP hS => ?_)
    refine lv_aload_n hx hb d_MT_string_73 rfl (lv_at hl 0 rfl) ?_
    refine o_get (v := .ref (ad 37)) C in_MT hP 33 mw_33 rfl 3 (by decide) k_7_106 rfl rfl d_MT_string_74 ?_
    refine lv_iload_n hx hb d_MT_string_77 rfl (lv_at hl 1 rfl) ?_
    refine lv_aload_n hx hb d_MT_string_78 rfl (lv_at hl 0 rfl) ?_
    refine o_get (v := .int (MT_used q6.2)) C in_MT hP 33 mw_33 rfl 17 (by decide) k_7_131 rfl rfl d_MT_string_79 ?_
    refine lv_aload_n hx hb d_MT_string_82 rfl (lv_at hl 0 rfl) ?_
    refine o_get (v := .ref (ad 43)) C in_MT hP 33 mw_33 rfl 9 (by decide) k_7_118 rfl rfl d_MT_string_83 ?_
    refine lv_iload_n hx hb d_MT_string_86 rfl (lv_at hl 1 rfl) ?_
    obtain ⟨g10, h⟩ := o_gd_some h
    refine o_iald (f := (MT_from q6.2)) C hP 43 41 mw_43 rfl g10 d_MT_string_87 ?_
    refine lv_isub hx hb d_MT_string_88 ?_
    obtain ⟨g11, h⟩ := o_gd_some h
    refine o_iast (f := (MT_many q6.2)) (w1 := (m_cw ad ca ky ty rt Ni Np No Nx Nf Na Nh Nq Nj (MT_mk (MT_text q6.2) (MT_kind q6.2) (MT_place q6.2) (upd (MT_many q6.2) q1.1.toNatClampNeg ((MT_used q6.2) - ((MT_from q6.2) q1.1.toNatClampNeg))) (MT_parent q6.2) (MT_power q6.2) (MT_first q6.2) (MT_next q6.2) (MT_name q6.2) (MT_from q6.2) (MT_characters q6.2) (MT_digits q6.2) (MT_minus q6.2) (MT_values q6.2) (MT_letters q6.2) ((MT_at q6.2) + (1:Int32)) (MT_wrong q6.2) (MT_used q6.2) (MT_written q6.2) (MT_left q6.2)) M1)) C hP (hDD _ _ _ _ _ _ _ _ _ _ _ _) hS 37 35 mw_37 rfl g11 rfl d_MT_string_89 (fun H locs hP hS => ?_)
    refine lv_iconst (v := (1:Int32)) hx hb d_MT_string_90 (by decide) ?_
    cases h
    exact o_rz (v := (1:Int32)) C o_nar1 hP hS d_MT_string_91
  replace h := o_ff c13 h
  refine o_in_ c13 ?_
  by_cases c14 : q6.1 = 3
  · replace h := o_tt c14 h
    refine o_ip c14 ?_
    intro H locs ls hP hS hl
    refine lv_iconst (v := (0:Int32)) hx hb d_MT_string_107 (by decide) ?_
    cases h
    exact o_rz (v := (0:Int32)) C o_nar0 hP hS d_MT_string_108
  replace h := o_ff c14 h
  refine o_in_ c14 ?_
  by_cases c15 : q6.1 = 4
  · replace h := o_tt c15 h
    refine o_ip c15 ?_
    intro H locs ls hP hS hl
    refine lv_iconst (v := (0:Int32)) hx hb d_MT_string_126 (by decide) ?_
    cases h
    exact o_rz (v := (0:Int32)) C o_nar0 hP hS d_MT_string_127
  replace h := o_ff c15 h
  refine o_in_ c15 ?_
  intro H locs ls hP hS hl
  refine lv_iconst (v := (0:Int32)) hx hb d_MT_string_150 (by decide) ?_
  cases h
  exact o_rz (v := (0:Int32)) C o_nar0 hP hS d_MT_string_151
set_option maxHeartbeats 4000000 in
set_option maxRecDepth 100000 in
theorem f_MT_string_b27_b {E : (Nat → Prop) → State → Heap → Prop} {p : Program} {l : Launch} {e : Env} {s : State} {m : MethodId} {args : Array Value} {below : List Frame} {meth : Method} {c : Code} {D : va_G} {ad kd sd vd xd : Nat → Nat} {ca : Nat → ClassId} {A : Nat → Prop} {ky ty : Nat → Option Nat} {Q : State → Prop} (hE : o_EK E kd sd vd xd) (hKy : m_KY ky ty sd) (C : o_Cx E p s m args meth c D m_cls (m_tys ca) "SchemaJudgeModel$Text" b_MT_string (some .boolean) 5 cc_MT_string A) (hDD : ∀ (rt : Nat) (Ni : SNI) (Np : SNP) (No : SNO) (Nx : SNX) (Nf : SNF) (Na : SNA) (Nh : SNH) (Nq : SNQ) (Nj : SNJ) (M0 : SMT) (M1 : SMT), va_D A (m_cw ad ca ky ty rt Ni Np No Nx Nf Na Nh Nq Nj M0 M1)) (n : Nat) (u27_x2 : Int32) (u27_Ni : SNI) (u27_Np : SNP) (u27_No : SNO) (u27_Nx : SNX) (u27_Nf : SNF) (u27_Na : SNA) (u27_Nh : SNH) (u27_Nq : SNQ) (u27_Nj : SNJ) (u27_M0 : SMT) (u27_rt : Nat) (z : SMT) (q : Nat × SMT) (h : m_MT_string_b27 n u27_x2 z = some q) (h0 : q.1 = 0 → o_At p l e rm_MT_string s m args below meth c Q m_cls D A 5 27 [] (m_cw ad ca ky ty u27_rt u27_Ni u27_Np u27_No u27_Nx u27_Nf u27_Na u27_Nh u27_Nq u27_Nj u27_M0 q.2) [(0, .ref (ad 48)), (2, .int u27_x2)]) (h1 : q.1 ≠ 0 → (if q.1 = 1 then o_At p l e rm_MT_string s m args below meth c Q m_cls D A 5 48 [] (m_cw ad ca ky ty u27_rt u27_Ni u27_Np u27_No u27_Nx u27_Nf u27_Na u27_Nh u27_Nq u27_Nj u27_M0 q.2) [(0, .ref (ad 48))] else if q.1 = 2 then o_At p l e rm_MT_string s m args below meth c Q m_cls D A 5 63 [] (m_cw ad ca ky ty u27_rt u27_Ni u27_Np u27_No u27_Nx u27_Nf u27_Na u27_Nh u27_Nq u27_Nj u27_M0 q.2) [(0, .ref (ad 48)), (2, .int u27_x2)] else if q.1 = 3 then o_At p l e rm_MT_string s m args below meth c Q m_cls D A 5 107 [] (m_cw ad ca ky ty u27_rt u27_Ni u27_Np u27_No u27_Nx u27_Nf u27_Na u27_Nh u27_Nq u27_Nj u27_M0 q.2) [] else if q.1 = 4 then o_At p l e rm_MT_string s m args below meth c Q m_cls D A 5 126 [] (m_cw ad ca ky ty u27_rt u27_Ni u27_Np u27_No u27_Nx u27_Nf u27_Na u27_Nh u27_Nq u27_Nj u27_M0 q.2) [] else o_At p l e rm_MT_string s m args below meth c Q m_cls D A 5 150 [] (m_cw ad ca ky ty u27_rt u27_Ni u27_Np u27_No u27_Nx u27_Nf u27_Na u27_Nh u27_Nq u27_Nj u27_M0 q.2) [])) : o_At p l e rm_MT_string s m args below meth c Q m_cls D A 5 27 [] (m_cw ad ca ky ty u27_rt u27_Ni u27_Np u27_No u27_Nx u27_Nf u27_Na u27_Nh u27_Nq u27_Nj u27_M0 z) [(0, .ref (ad 48)), (2, .int u27_x2)] := by
  unfold m_MT_string_b27 at h
  intro H locs ls hP hS hl
  have C0 := C
  obtain ⟨hx, hb, -, -, -, hown, hts, hK, -, -⟩ := C0
  refine lv_aload_n hx hb d_MT_string_27 rfl (lv_at hl 0 rfl) ?_
  refine lv_aload_n hx hb d_MT_string_28 rfl (lv_at hl 0 rfl) ?_
  refine o_get (v := .int (MT_at z)) C in_MT hP 48 mw_48 rfl 15 (by decide) k_7_129 rfl rfl d_MT_string_29 ?_
  obtain ⟨q2, hq2, h⟩ := o_bd_some h
  refine o_V (st1 := [.int q2]) (w1 := (m_cw ad ca ky ty u27_rt u27_Ni u27_Np u27_No u27_Nx u27_Nf u27_Na u27_Nh u27_Nq u27_Nj u27_M0 z)) hE.1 C (e_MT_c_b hE hKy l (MT_at z) z u27_Ni u27_Np u27_No u27_Nx u27_Nf u27_Na u27_Nh u27_Nq u27_Nj u27_M0 u27_rt hq2) hP (hDD _ _ _ _ _ _ _ _ _ _ _ _) hS hl.1 rfl mw_48 k_8_192 k_8_193 k_8_194 k_1_13 k_8_195 hv_MT_c rfl rfl ⟨(Nat.le_of_ble_eq_true rfl), (Nat.le_of_ble_eq_true rfl)⟩ rfl (Nat.le_of_ble_eq_true rfl) ⟨Nat.zero_le _, Nat.zero_le _⟩ rfl d_MT_string_32 (fun H locs hP hS => ?_)
  refine lv_istore_n (lv' := [(3, .int q2), (0, .ref (ad 48)), (2, .int u27_x2)]) hx hb d_MT_string_35 rfl hl (by decide) rfl (fun ls hl => ?_)
  refine lv_aload_n hx hb d_MT_string_36 rfl (lv_at hl 1 rfl) ?_
  refine o_get (v := .int (MT_at z)) C in_MT hP 48 mw_48 rfl 15 (by decide) k_7_129 rfl rfl d_MT_string_37 ?_
  refine lv_topi (fun x4_40 ex4_40 => ?_)
  replace h := o_nm_at ex4_40 h
  refine lv_istore (lv' := [(4, .int x4_40), (3, .int q2), (0, .ref (ad 48)), (2, .int u27_x2)]) hx hb d_MT_string_40 hl (by decide) rfl (fun ls hl => ?_)
  refine lv_iload_n hx hb d_MT_string_42 rfl (lv_at hl 1 rfl) ?_
  refine lv_bipush (v := (32:Int32)) hx hb d_MT_string_43 (by decide) ?_
  refine lv_icmp_ge (tgt := 57) hx hb d_MT_string_45 (by decide) (fun c2 => ?_) (fun c2 => ?_)
  · replace h := o_tt c2 h
    refine lv_iload_n hx hb d_MT_string_57 rfl (lv_at hl 1 rfl) ?_
    refine lv_bipush (v := (34:Int32)) hx hb d_MT_string_58 (by decide) ?_
    refine lv_icmp_ne (tgt := 92) hx hb d_MT_string_60 (by decide) (fun c3 => ?_) (fun c3 => ?_)
    · replace h := o_ff c3 h
      refine lv_iload_n hx hb d_MT_string_92 rfl (lv_at hl 1 rfl) ?_
      refine lv_bipush (v := (92:Int32)) hx hb d_MT_string_93 (by decide) ?_
      refine lv_icmp_ne (tgt := 109) hx hb d_MT_string_95 (by decide) (fun c4 => ?_) (fun c4 => ?_)
      · replace h := o_ff c4 h
        refine lv_iload_n hx hb d_MT_string_109 rfl (lv_at hl 1 rfl) ?_
        refine lv_sipush (v := (128:Int32)) hx hb d_MT_string_110 (by decide) ?_
        refine lv_icmp_ge (tgt := 141) hx hb d_MT_string_113 (by decide) (fun c5 => ?_) (fun c5 => ?_)
        · replace h := o_tt c5 h
          refine lv_aload_n hx hb d_MT_string_141 rfl (lv_at hl 2 rfl) ?_
          refine lv_iload hx hb d_MT_string_142 (lv_at hl 0 rfl) ?_
          obtain ⟨q3, hq3, h⟩ := o_bd_some h
          refine o_V (st1 := [.int q3.1]) (w1 := (m_cw ad ca ky ty u27_rt u27_Ni u27_Np u27_No u27_Nx u27_Nf u27_Na u27_Nh u27_Nq u27_Nj u27_M0 q3.2)) hE.1 C (e_MT_wide_b hE hKy l n x4_40 z u27_Ni u27_Np u27_No u27_Nx u27_Nf u27_Na u27_Nh u27_Nq u27_Nj u27_M0 u27_rt hq3) hP (hDD _ _ _ _ _ _ _ _ _ _ _ _) hS hl.1 rfl mw_48 k_9_4 k_9_5 k_9_6 k_1_13 k_9_7 hv_MT_wide rfl rfl ⟨(Nat.le_of_ble_eq_true rfl), (Nat.le_of_ble_eq_true rfl)⟩ rfl (Nat.le_of_ble_eq_true rfl) ⟨Nat.zero_le _, Nat.zero_le _⟩ rfl d_MT_string_144 (fun H locs hP hS => ?_)
          refine lv_if_ne (tgt := 152) hx hb d_MT_string_147 (by decide) (fun c6 => ?_) (fun c6 => ?_)
          · replace h := o_ff c6 h
            refine lv_goto (tgt := 27) hx hb d_MT_string_152 (by decide) ?_
            cases h
            exact h0 rfl _ _ _ hP hS (lv_sub hl [2, 3] rfl)
          · replace h := o_tt c6 h
            cases h
            exact h1 (Nat.succ_ne_zero 4) _ _ _ hP hS (lv_sub hl [] rfl)
        · replace h := o_ff c5 h
          refine lv_aload_n hx hb d_MT_string_116 rfl (lv_at hl 2 rfl) ?_
          refine lv_iload_n hx hb d_MT_string_117 rfl (lv_at hl 1 rfl) ?_
          refine lv_iload hx hb d_MT_string_118 (lv_at hl 0 rfl) ?_
          obtain ⟨q4, hq4, h⟩ := o_bd_some h
          refine o_V (st1 := [.int q4.1]) (w1 := (m_cw ad ca ky ty u27_rt u27_Ni u27_Np u27_No u27_Nx u27_Nf u27_Na u27_Nh u27_Nq u27_Nj u27_M0 q4.2)) hE.1 C (e_MT_put_b hE hKy l q2 x4_40 z u27_Ni u27_Np u27_No u27_Nx u27_Nf u27_Na u27_Nh u27_Nq u27_Nj u27_M0 u27_rt hq4) hP (hDD _ _ _ _ _ _ _ _ _ _ _ _) hS hl.1 rfl mw_48 k_8_228 k_8_229 k_8_230 k_1_13 k_8_231 hv_MT_put rfl rfl ⟨(Nat.le_of_ble_eq_true rfl), (Nat.le_of_ble_eq_true rfl)⟩ rfl (Nat.le_of_ble_eq_true rfl) ⟨Nat.zero_le _, Nat.zero_le _⟩ rfl d_MT_string_120 (fun H locs hP hS => ?_)
          refine lv_if_ne (tgt := 128) hx hb d_MT_string_123 (by decide) (fun c7 => ?_) (fun c7 => ?_)
          · replace h := o_ff c7 h
            refine lv_aload_n hx hb d_MT_string_128 rfl (lv_at hl 2 rfl) ?_
            refine lv_dup hx hb d_MT_string_129 rfl ?_
            refine o_get (v := .int (MT_at q4.2)) C in_MT hP 48 mw_48 rfl 15 (by decide) k_7_129 rfl rfl d_MT_string_130 ?_
            refine lv_iconst (v := (1:Int32)) hx hb d_MT_string_133 (by decide) ?_
            refine lv_iadd hx hb d_MT_string_134 ?_
            refine o_put (v := .int ((MT_at q4.2) + (1:Int32))) (ty := .int) (w1 := (m_cw ad ca ky ty u27_rt u27_Ni u27_Np u27_No u27_Nx u27_Nf u27_Na u27_Nh u27_Nq u27_Nj u27_M0 (MT_mk (MT_text q4.2) (MT_kind q4.2) (MT_place q4.2) (MT_many q4.2) (MT_parent q4.2) (MT_power q4.2) (MT_first q4.2) (MT_next q4.2) (MT_name q4.2) (MT_from q4.2) (MT_characters q4.2) (MT_digits q4.2) (MT_minus q4.2) (MT_values q4.2) (MT_letters q4.2) ((MT_at q4.2) + (1:Int32)) (MT_wrong q4.2) (MT_used q4.2) (MT_written q4.2) (MT_left q4.2)))) C in_MT t_MT t_MT_ok n_MT hP (hDD _ _ _ _ _ _ _ _ _ _ _ _) hS 48 mw_48 rfl 15 (by decide) k_7_129 rfl rfl (by decide +kernel) rfl rfl (Nat.le_of_ble_eq_true rfl) rfl d_MT_string_135 (fun H locs hP hS => ?_)
            refine lv_goto (tgt := 152) hx hb d_MT_string_138 (by decide) ?_
            refine lv_goto (tgt := 27) hx hb d_MT_string_152 (by decide) ?_
            cases h
            exact h0 rfl _ _ _ hP hS (lv_sub hl [2, 3] rfl)
          · replace h := o_tt c7 h
            cases h
            exact h1 (Nat.succ_ne_zero 3) _ _ _ hP hS (lv_sub hl [] rfl)
      · replace h := o_tt c4 h
        refine lv_aload_n hx hb d_MT_string_98 rfl (lv_at hl 2 rfl) ?_
        refine lv_iload hx hb d_MT_string_99 (lv_at hl 0 rfl) ?_
        obtain ⟨q5, hq5, h⟩ := o_bd_some h
        refine o_V (st1 := [.int q5.1]) (w1 := (m_cw ad ca ky ty u27_rt u27_Ni u27_Np u27_No u27_Nx u27_Nf u27_Na u27_Nh u27_Nq u27_Nj u27_M0 q5.2)) hE.1 C (e_MT_escape_b hE hKy l n x4_40 z u27_Ni u27_Np u27_No u27_Nx u27_Nf u27_Na u27_Nh u27_Nq u27_Nj u27_M0 u27_rt hq5) hP (hDD _ _ _ _ _ _ _ _ _ _ _ _) hS hl.1 rfl mw_48 k_8_224 k_8_225 k_8_226 k_1_13 k_8_227 hv_MT_escape rfl rfl ⟨(Nat.le_of_ble_eq_true rfl), (Nat.le_of_ble_eq_true rfl)⟩ rfl (Nat.le_of_ble_eq_true rfl) ⟨Nat.zero_le _, Nat.zero_le _⟩ rfl d_MT_string_101 (fun H locs hP hS => ?_)
        refine lv_if_ne (tgt := 152) hx hb d_MT_string_104 (by decide) (fun c8 => ?_) (fun c8 => ?_)
        · replace h := o_ff c8 h
          refine lv_goto (tgt := 27) hx hb d_MT_string_152 (by decide) ?_
          cases h
          exact h0 rfl _ _ _ hP hS (lv_sub hl [2, 3] rfl)
        · replace h := o_tt c8 h
          cases h
          exact h1 (Nat.succ_ne_zero 2) _ _ _ hP hS (lv_sub hl [] rfl)
    · replace h := o_tt c3 h
      cases h
      exact h1 (Nat.succ_ne_zero 1) _ _ _ hP hS (lv_sub hl [2, 3] rfl)
  · replace h := o_ff c2 h
    cases h
    exact h1 (Nat.succ_ne_zero 0) _ _ _ hP hS (lv_sub hl [2] rfl)
set_option maxHeartbeats 4000000 in
set_option maxRecDepth 100000 in
theorem e_MT_string_b {E : (Nat → Prop) → State → Heap → Prop} {D : va_G} {ad kd sd vd xd : Nat → Nat} {ca : Nat → ClassId} {ky ty : Nat → Option Nat} (hE : o_EK E kd sd vd xd) (hKy : m_KY ky ty sd) (l : Launch) (n : Nat) (x1 : Int32) (a0 : SMT) (Ni : SNI) (Np : SNP) (No : SNO) (Nx : SNX) (Nf : SNF) (Na : SNA) (Nh : SNH) (Nq : SNQ) (Nj : SNJ) (M0 : SMT) (rt : Nat) {r : Int32 × SMT} (h : m_MT_string n x1 a0 = some r) : o_Cn E l D m_cls (m_tys ca) y_MT_string cc_MT_string rm_MT_string [.ref (ad 48), .int x1] (m_cw ad ca ky ty rt Ni Np No Nx Nf Na Nh Nq Nj M0 a0) (m_cw ad ca ky ty rt Ni Np No Nx Nf Na Nh Nq Nj M0 r.2) (some (.int r.1)) := by
  refine o_Cn_of (by decide) (Nat.le_of_ble_eq_true rfl) ?_
  intro p e s m below meth c A ls C hD hP hS hl
  have hDD : ∀ (rt : Nat) (Ni : SNI) (Np : SNP) (No : SNO) (Nx : SNX) (Nf : SNF) (Na : SNA) (Nh : SNH) (Nq : SNQ) (Nj : SNJ) (M0 : SMT) (M1 : SMT), va_D A (m_cw ad ca ky ty rt Ni Np No Nx Nf Na Nh Nq Nj M0 M1) := fun _ _ _ _ _ _ _ _ _ _ _ _ => o_D_map hD rfl
  have hl : lv_has ls 5 [(0, .ref (ad 48)), (1, .int x1)] := hl
  unfold m_MT_string at h
  have C0 := C
  obtain ⟨hx, hb, -, -, -, hown, hts, hK, -, -⟩ := C0
  refine lv_aload_n hx hb d_MT_string_0 rfl (lv_at hl 0 rfl) ?_
  refine lv_iload_n hx hb d_MT_string_1 rfl (lv_at hl 1 rfl) ?_
  refine lv_iconst (v := (4:Int32)) hx hb d_MT_string_2 (by decide) ?_
  obtain ⟨q1, hq1, h⟩ := o_bd_some h
  refine o_V (st1 := [.int q1.1]) (w1 := (m_cw ad ca ky ty rt Ni Np No Nx Nf Na Nh Nq Nj M0 q1.2)) hE.1 C (e_MT_fresh_b hE hKy l x1 (4:Int32) a0 Ni Np No Nx Nf Na Nh Nq Nj M0 rt hq1) hP (hDD _ _ _ _ _ _ _ _ _ _ _ _) hS hl.1 rfl mw_48 k_8_212 k_8_213 k_8_214 k_1_13 k_8_215 hv_MT_fresh rfl rfl ⟨(Nat.le_of_ble_eq_true rfl), (Nat.le_of_ble_eq_true rfl)⟩ rfl (Nat.le_of_ble_eq_true rfl) ⟨Nat.zero_le _, Nat.zero_le _⟩ rfl d_MT_string_3 (fun H locs hP hS => ?_)
  refine lv_istore_n (lv' := [(2, .int q1.1), (0, .ref (ad 48)), (1, .int x1)]) hx hb d_MT_string_6 rfl hl (by decide) rfl (fun ls hl => ?_)
  refine lv_aload_n hx hb d_MT_string_7 rfl (lv_at hl 1 rfl) ?_
  refine o_get (v := .ref (ad 58)) C in_MT hP 48 mw_48 rfl 9 (by decide) k_7_118 rfl rfl d_MT_string_8 ?_
  refine lv_iload_n hx hb d_MT_string_11 rfl (lv_at hl 0 rfl) ?_
  refine lv_aload_n hx hb d_MT_string_12 rfl (lv_at hl 1 rfl) ?_
  refine o_get (v := .int (MT_used q1.2)) C in_MT hP 48 mw_48 rfl 17 (by decide) k_7_131 rfl rfl d_MT_string_13 ?_
  obtain ⟨g1, h⟩ := o_gd_some h
  refine o_iast (f := (MT_from q1.2)) (w1 := (m_cw ad ca ky ty rt Ni Np No Nx Nf Na Nh Nq Nj M0 (MT_mk (MT_text q1.2) (MT_kind q1.2) (MT_place q1.2) (MT_many q1.2) (MT_parent q1.2) (MT_power q1.2) (MT_first q1.2) (MT_next q1.2) (MT_name q1.2) (upd (MT_from q1.2) q1.1.toNatClampNeg (MT_used q1.2)) (MT_characters q1.2) (MT_digits q1.2) (MT_minus q1.2) (MT_values q1.2) (MT_letters q1.2) (MT_at q1.2) (MT_wrong q1.2) (MT_used q1.2) (MT_written q1.2) (MT_left q1.2)))) C hP (hDD _ _ _ _ _ _ _ _ _ _ _ _) hS 58 55 mw_58 rfl g1 rfl d_MT_string_16 (fun H locs hP hS => ?_)
  refine lv_aload_n hx hb d_MT_string_17 rfl (lv_at hl 1 rfl) ?_
  refine lv_dup hx hb d_MT_string_18 rfl ?_
  refine o_get (v := .int (MT_at q1.2)) C in_MT hP 48 mw_48 rfl 15 (by decide) k_7_129 rfl rfl d_MT_string_19 ?_
  refine lv_iconst (v := (1:Int32)) hx hb d_MT_string_22 (by decide) ?_
  refine lv_iadd hx hb d_MT_string_23 ?_
  refine o_put (v := .int ((MT_at q1.2) + (1:Int32))) (ty := .int) (w1 := (m_cw ad ca ky ty rt Ni Np No Nx Nf Na Nh Nq Nj M0 (MT_mk (MT_text q1.2) (MT_kind q1.2) (MT_place q1.2) (MT_many q1.2) (MT_parent q1.2) (MT_power q1.2) (MT_first q1.2) (MT_next q1.2) (MT_name q1.2) (upd (MT_from q1.2) q1.1.toNatClampNeg (MT_used q1.2)) (MT_characters q1.2) (MT_digits q1.2) (MT_minus q1.2) (MT_values q1.2) (MT_letters q1.2) ((MT_at q1.2) + (1:Int32)) (MT_wrong q1.2) (MT_used q1.2) (MT_written q1.2) (MT_left q1.2)))) C in_MT t_MT t_MT_ok n_MT hP (hDD _ _ _ _ _ _ _ _ _ _ _ _) hS 48 mw_48 rfl 15 (by decide) k_7_129 rfl rfl (by decide +kernel) rfl rfl (Nat.le_of_ble_eq_true rfl) rfl d_MT_string_24 (fun H locs hP hS => ?_)
  obtain ⟨q6, hq6, h⟩ := o_bd_some h
  refine o_sim2 (AH := fun zz => o_At p l e rm_MT_string s m _ below meth c _ m_cls D A 5 27 [] (m_cw ad ca ky ty rt Ni Np No Nx Nf Na Nh Nq Nj M0 zz) [(0, .ref (ad 48)), (2, .int q1.1)]) (AX := fun qq => if qq.1 = 1 then o_At p l e rm_MT_string s m _ below meth c _ m_cls D A 5 48 [] (m_cw ad ca ky ty rt Ni Np No Nx Nf Na Nh Nq Nj M0 qq.2) [(0, .ref (ad 48))] else if qq.1 = 2 then o_At p l e rm_MT_string s m _ below meth c _ m_cls D A 5 63 [] (m_cw ad ca ky ty rt Ni Np No Nx Nf Na Nh Nq Nj M0 qq.2) [(0, .ref (ad 48)), (2, .int q1.1)] else if qq.1 = 3 then o_At p l e rm_MT_string s m _ below meth c _ m_cls D A 5 107 [] (m_cw ad ca ky ty rt Ni Np No Nx Nf Na Nh Nq Nj M0 qq.2) [] else if qq.1 = 4 then o_At p l e rm_MT_string s m _ below meth c _ m_cls D A 5 126 [] (m_cw ad ca ky ty rt Ni Np No Nx Nf Na Nh Nq Nj M0 qq.2) [] else o_At p l e rm_MT_string s m _ below meth c _ m_cls D A 5 150 [] (m_cw ad ca ky ty rt Ni Np No Nx Nf Na Nh Nq Nj M0 qq.2) []) (fun zz qq h h0 h1 => f_MT_string_b27_b hE hKy C hDD n q1.1 Ni Np No Nx Nf Na Nh Nq Nj M0 rt zz qq h h0 h1) n _ q6 hq6 ?_ _ _ _ hP hS (lv_sub hl [1, 0] rfl)
  by_cases c12 : q6.1 = 1
  · replace h := o_tt c12 h
    refine o_ip c12 ?_
    intro H locs ls hP hS hl
    refine lv_aload_n hx hb d_MT_string_48 rfl (lv_at hl 0 rfl) ?_
    refine lv_aload_n hx hb d_MT_string_49 rfl (lv_at hl 0 rfl) ?_
    refine o_get (v := .int (MT_at q6.2)) C in_MT hP 48 mw_48 rfl 15 (by decide) k_7_129 rfl rfl d_MT_string_50 ?_
    obtain ⟨q7, hq7, h⟩ := o_bd_some h
    refine o_V (st1 := [.int q7.1]) (w1 := (m_cw ad ca ky ty rt Ni Np No Nx Nf Na Nh Nq Nj M0 q7.2)) hE.1 C (e_MT_bad_b hE hKy l (MT_at q6.2) q6.2 Ni Np No Nx Nf Na Nh Nq Nj M0 rt hq7) hP (hDD _ _ _ _ _ _ _ _ _ _ _ _) hS hl.1 rfl mw_48 k_8_203 k_8_204 k_8_205 k_1_13 k_8_206 hv_MT_bad rfl rfl ⟨(Nat.le_of_ble_eq_true rfl), (Nat.le_of_ble_eq_true rfl)⟩ rfl (Nat.le_of_ble_eq_true rfl) ⟨Nat.zero_le _, Nat.zero_le _⟩ rfl d_MT_string_53 (fun H locs hP hS => ?_)
    obtain ⟨g9, h⟩ := o_gd_some h
    cases h
    exact o_rz C (o_zb_nar g9) hP hS d_MT_string_56
  replace h := o_ff c12 h
  refine o_in_ c12 ?_
  by_cases c13 : q6.1 = 2
  · replace h := o_tt c13 h
    refine o_ip c13 ?_
    intro H locs ls hP hS hl
    refine lv_aload_n hx hb d_MT_string_63 rfl (lv_at hl 0 rfl) ?_
    refine lv_dup hx hb d_MT_string_64 rfl ?_
    refine o_get (v := .int (MT_at q6.2)) C in_MT hP 48 mw_48 rfl 15 (by decide) k_7_129 rfl rfl d_MT_string_65 ?_
    refine lv_iconst (v := (1:Int32)) hx hb d_MT_string_68 (by decide) ?_
    refine lv_iadd hx hb d_MT_string_69 ?_
    refine o_put (v := .int ((MT_at q6.2) + (1:Int32))) (ty := .int) (w1 := (m_cw ad ca ky ty rt Ni Np No Nx Nf Na Nh Nq Nj M0 (MT_mk (MT_text q6.2) (MT_kind q6.2) (MT_place q6.2) (MT_many q6.2) (MT_parent q6.2) (MT_power q6.2) (MT_first q6.2) (MT_next q6.2) (MT_name q6.2) (MT_from q6.2) (MT_characters q6.2) (MT_digits q6.2) (MT_minus q6.2) (MT_values q6.2) (MT_letters q6.2) ((MT_at q6.2) + (1:Int32)) (MT_wrong q6.2) (MT_used q6.2) (MT_written q6.2) (MT_left q6.2)))) C in_MT t_MT t_MT_ok n_MT hP (hDD _ _ _ _ _ _ _ _ _ _ _ _) hS 48 mw_48 rfl 15 (by decide) k_7_129 rfl rfl (by decide +kernel) rfl rfl (Nat.le_of_ble_eq_true rfl) rfl d_MT_string_70 (fun H locs hP hS => ?_)
    refine lv_aload_n hx hb d_MT_string_73 rfl (lv_at hl 0 rfl) ?_
    refine o_get (v := .ref (ad 52)) C in_MT hP 48 mw_48 rfl 3 (by decide) k_7_106 rfl rfl d_MT_string_74 ?_
    refine lv_iload_n hx hb d_MT_string_77 rfl (lv_at hl 1 rfl) ?_
    refine lv_aload_n hx hb d_MT_string_78 rfl (lv_at hl 0 rfl) ?_
    refine o_get (v := .int (MT_used q6.2)) C in_MT hP 48 mw_48 rfl 17 (by decide) k_7_131 rfl rfl d_MT_string_79 ?_
    refine lv_aload_n hx hb d_MT_string_82 rfl (lv_at hl 0 rfl) ?_
    refine o_get (v := .ref (ad 58)) C in_MT hP 48 mw_48 rfl 9 (by decide) k_7_118 rfl rfl d_MT_string_83 ?_
    refine lv_iload_n hx hb d_MT_string_86 rfl (lv_at hl 1 rfl) ?_
    obtain ⟨g10, h⟩ := o_gd_some h
    refine o_iald (f := (MT_from q6.2)) C hP 58 55 mw_58 rfl g10 d_MT_string_87 ?_
    refine lv_isub hx hb d_MT_string_88 ?_
    obtain ⟨g11, h⟩ := o_gd_some h
    refine o_iast (f := (MT_many q6.2)) (w1 := (m_cw ad ca ky ty rt Ni Np No Nx Nf Na Nh Nq Nj M0 (MT_mk (MT_text q6.2) (MT_kind q6.2) (MT_place q6.2) (upd (MT_many q6.2) q1.1.toNatClampNeg ((MT_used q6.2) - ((MT_from q6.2) q1.1.toNatClampNeg))) (MT_parent q6.2) (MT_power q6.2) (MT_first q6.2) (MT_next q6.2) (MT_name q6.2) (MT_from q6.2) (MT_characters q6.2) (MT_digits q6.2) (MT_minus q6.2) (MT_values q6.2) (MT_letters q6.2) ((MT_at q6.2) + (1:Int32)) (MT_wrong q6.2) (MT_used q6.2) (MT_written q6.2) (MT_left q6.2)))) C hP (hDD _ _ _ _ _ _ _ _ _ _ _ _) hS 52 49 mw_52 rfl g11 rfl d_MT_string_89 (fun H locs hP hS => ?_)
    refine lv_iconst (v := (1:Int32)) hx hb d_MT_string_90 (by decide) ?_
    cases h
    exact o_rz (v := (1:Int32)) C o_nar1 hP hS d_MT_string_91
  replace h := o_ff c13 h
  refine o_in_ c13 ?_
  by_cases c14 : q6.1 = 3
  · replace h := o_tt c14 h
    refine o_ip c14 ?_
    intro H locs ls hP hS hl
    refine lv_iconst (v := (0:Int32)) hx hb d_MT_string_107 (by decide) ?_
    cases h
    exact o_rz (v := (0:Int32)) C o_nar0 hP hS d_MT_string_108
  replace h := o_ff c14 h
  refine o_in_ c14 ?_
  by_cases c15 : q6.1 = 4
  · replace h := o_tt c15 h
    refine o_ip c15 ?_
    intro H locs ls hP hS hl
    refine lv_iconst (v := (0:Int32)) hx hb d_MT_string_126 (by decide) ?_
    cases h
    exact o_rz (v := (0:Int32)) C o_nar0 hP hS d_MT_string_127
  replace h := o_ff c15 h
  refine o_in_ c15 ?_
  intro H locs ls hP hS hl
  refine lv_iconst (v := (0:Int32)) hx hb d_MT_string_150 (by decide) ?_
  cases h
  exact o_rz (v := (0:Int32)) C o_nar0 hP hS d_MT_string_151
set_option maxHeartbeats 4000000 in
set_option maxRecDepth 100000 in
theorem f_MT_number_b118_a {E : (Nat → Prop) → State → Heap → Prop} {p : Program} {l : Launch} {e : Env} {s : State} {m : MethodId} {args : Array Value} {below : List Frame} {meth : Method} {c : Code} {D : va_G} {ad kd sd vd xd : Nat → Nat} {ca : Nat → ClassId} {A : Nat → Prop} {ky ty : Nat → Option Nat} {Q : State → Prop} (hE : o_EK E kd sd vd xd) (hKy : m_KY ky ty sd) (C : o_Cx E p s m args meth c D m_cls (m_tys ca) "SchemaJudgeModel$Text" b_MT_number (some .boolean) 10 cc_MT_number A) (hDD : ∀ (rt : Nat) (Ni : SNI) (Np : SNP) (No : SNO) (Nx : SNX) (Nf : SNF) (Na : SNA) (Nh : SNH) (Nq : SNQ) (Nj : SNJ) (M0 : SMT) (M1 : SMT), va_D A (m_cw ad ca ky ty rt Ni Np No Nx Nf Na Nh Nq Nj M0 M1)) (n : Nat) (u118_x2 : Int32) (u118_x3 : Int32) (u118_x5 : Int32) (u118_x6 : Int32) (u118_Ni : SNI) (u118_Np : SNP) (u118_No : SNO) (u118_Nx : SNX) (u118_Nf : SNF) (u118_Na : SNA) (u118_Nh : SNH) (u118_Nq : SNQ) (u118_Nj : SNJ) (u118_M1 : SMT) (u118_rt : Nat) (z : Int32 × SMT) (q : Nat × Int32 × SMT) (h : m_MT_number_b118 n u118_x2 u118_x3 u118_x5 u118_x6 z = some q) (h0 : q.1 = 0 → o_At p l e rm_MT_number s m args below meth c Q m_cls D A 10 118 [] (m_cw ad ca ky ty u118_rt u118_Ni u118_Np u118_No u118_Nx u118_Nf u118_Na u118_Nh u118_Nq u118_Nj q.2.2 u118_M1) [(0, .ref (ad 33)), (2, .int u118_x2), (3, .int u118_x3), (4, .int q.2.1), (5, .int u118_x5), (6, .int u118_x6)]) (h1 : q.1 ≠ 0 → (o_At p l e rm_MT_number s m args below meth c Q m_cls D A 10 174 [] (m_cw ad ca ky ty u118_rt u118_Ni u118_Np u118_No u118_Nx u118_Nf u118_Na u118_Nh u118_Nq u118_Nj q.2.2 u118_M1) [(0, .ref (ad 33)), (2, .int u118_x2), (3, .int u118_x3), (4, .int q.2.1), (5, .int u118_x5)])) : o_At p l e rm_MT_number s m args below meth c Q m_cls D A 10 118 [] (m_cw ad ca ky ty u118_rt u118_Ni u118_Np u118_No u118_Nx u118_Nf u118_Na u118_Nh u118_Nq u118_Nj z.2 u118_M1) [(0, .ref (ad 33)), (2, .int u118_x2), (3, .int u118_x3), (4, .int z.1), (5, .int u118_x5), (6, .int u118_x6)] := by
  unfold m_MT_number_b118 at h
  intro H locs ls hP hS hl
  have C0 := C
  obtain ⟨hx, hb, -, -, -, hown, hts, hK, -, -⟩ := C0
  refine lv_aload_n hx hb d_MT_number_118 rfl (lv_at hl 0 rfl) ?_
  refine o_get (v := .ref (ad 45)) C in_MT hP 33 mw_33 rfl 11 (by decide) k_7_122 rfl rfl d_MT_number_119 ?_
  refine lv_aload_n hx hb d_MT_number_122 rfl (lv_at hl 0 rfl) ?_
  refine o_get (v := .int (MT_written z.2)) C in_MT hP 33 mw_33 rfl 18 (by decide) k_7_132 rfl rfl d_MT_number_123 ?_
  refine lv_iload hx hb d_MT_number_126 (lv_at hl 3 rfl) ?_
  obtain ⟨x4_128, ex4_128⟩ : ∃ y : Int32, y = z.1 + (1:Int32) := ⟨_, rfl⟩
  replace h := o_nm_at ex4_128 h
  refine lv_iinc (v := x4_128) (lv' := [(4, .int x4_128), (0, .ref (ad 33)), (2, .int u118_x2), (3, .int u118_x3), (5, .int u118_x5), (6, .int u118_x6)]) hx hb d_MT_number_128 hl (k := 3) rfl (by rw [ex4_128]; rfl) (by decide) rfl (fun ls hl => ?_)
  refine lv_iadd hx hb d_MT_number_131 ?_
  refine lv_aload_n hx hb d_MT_number_132 rfl (lv_at hl 1 rfl) ?_
  refine lv_aload_n hx hb d_MT_number_133 rfl (lv_at hl 1 rfl) ?_
  refine lv_dup hx hb d_MT_number_134 rfl ?_
  refine o_get (v := .int (MT_at z.2)) C in_MT hP 33 mw_33 rfl 15 (by decide) k_7_129 rfl rfl d_MT_number_135 ?_
  refine lv_dup_x1 hx hb d_MT_number_138 rfl rfl ?_
  refine lv_iconst (v := (1:Int32)) hx hb d_MT_number_139 (by decide) ?_
  refine lv_iadd hx hb d_MT_number_140 ?_
  refine o_put (v := .int ((MT_at z.2) + (1:Int32))) (ty := .int) (w1 := (m_cw ad ca ky ty u118_rt u118_Ni u118_Np u118_No u118_Nx u118_Nf u118_Na u118_Nh u118_Nq u118_Nj (MT_mk (MT_text z.2) (MT_kind z.2) (MT_place z.2) (MT_many z.2) (MT_parent z.2) (MT_power z.2) (MT_first z.2) (MT_next z.2) (MT_name z.2) (MT_from z.2) (MT_characters z.2) (MT_digits z.2) (MT_minus z.2) (MT_values z.2) (MT_letters z.2) ((MT_at z.2) + (1:Int32)) (MT_wrong z.2) (MT_used z.2) (MT_written z.2) (MT_left z.2)) u118_M1)) C in_MT t_MT t_MT_ok n_MT hP (hDD _ _ _ _ _ _ _ _ _ _ _ _) hS 33 mw_33 rfl 15 (by decide) k_7_129 rfl rfl (by decide +kernel) rfl rfl (Nat.le_of_ble_eq_true rfl) rfl d_MT_number_141 (fun H locs hP hS => ?_)
  obtain ⟨q6, hq6, h⟩ := o_bd_some h
  refine o_V (st1 := [.int q6, .int ((MT_written z.2) + z.1), .ref (ad 45)]) (w1 := (m_cw ad ca ky ty u118_rt u118_Ni u118_Np u118_No u118_Nx u118_Nf u118_Na u118_Nh u118_Nq u118_Nj (MT_mk (MT_text z.2) (MT_kind z.2) (MT_place z.2) (MT_many z.2) (MT_parent z.2) (MT_power z.2) (MT_first z.2) (MT_next z.2) (MT_name z.2) (MT_from z.2) (MT_characters z.2) (MT_digits z.2) (MT_minus z.2) (MT_values z.2) (MT_letters z.2) ((MT_at z.2) + (1:Int32)) (MT_wrong z.2) (MT_used z.2) (MT_written z.2) (MT_left z.2)) u118_M1)) hE.1 C (e_MT_c_a hE hKy l (MT_at z.2) (MT_mk (MT_text z.2) (MT_kind z.2) (MT_place z.2) (MT_many z.2) (MT_parent z.2) (MT_power z.2) (MT_first z.2) (MT_next z.2) (MT_name z.2) (MT_from z.2) (MT_characters z.2) (MT_digits z.2) (MT_minus z.2) (MT_values z.2) (MT_letters z.2) ((MT_at z.2) + (1:Int32)) (MT_wrong z.2) (MT_used z.2) (MT_written z.2) (MT_left z.2)) u118_Ni u118_Np u118_No u118_Nx u118_Nf u118_Na u118_Nh u118_Nq u118_Nj u118_M1 u118_rt hq6) hP (hDD _ _ _ _ _ _ _ _ _ _ _ _) hS hl.1 rfl mw_33 k_8_192 k_8_193 k_8_194 k_1_13 k_8_195 hv_MT_c rfl rfl ⟨(Nat.le_of_ble_eq_true rfl), (Nat.le_of_ble_eq_true rfl)⟩ rfl (Nat.le_of_ble_eq_true rfl) ⟨Nat.zero_le _, Nat.zero_le _⟩ rfl d_MT_number_144 (fun H locs hP hS => ?_)
  refine lv_bipush (v := (48:Int32)) hx hb d_MT_number_147 (by decide) ?_
  refine lv_isub hx hb d_MT_number_149 ?_
  obtain ⟨g8, h⟩ := o_gd_some h
  refine o_iast (f := (MT_digits z.2)) (w1 := (m_cw ad ca ky ty u118_rt u118_Ni u118_Np u118_No u118_Nx u118_Nf u118_Na u118_Nh u118_Nq u118_Nj (MT_mk (MT_text z.2) (MT_kind z.2) (MT_place z.2) (MT_many z.2) (MT_parent z.2) (MT_power z.2) (MT_first z.2) (MT_next z.2) (MT_name z.2) (MT_from z.2) (MT_characters z.2) (upd (MT_digits z.2) ((MT_written z.2) + z.1).toNatClampNeg (q6 - (48:Int32))) (MT_minus z.2) (MT_values z.2) (MT_letters z.2) ((MT_at z.2) + (1:Int32)) (MT_wrong z.2) (MT_used z.2) (MT_written z.2) (MT_left z.2)) u118_M1)) C hP (hDD _ _ _ _ _ _ _ _ _ _ _ _) hS 45 43 mw_45 rfl g8 rfl d_MT_number_150 (fun H locs hP hS => ?_)
  refine lv_iload hx hb d_MT_number_151 (lv_at hl 5 rfl) ?_
  refine lv_if_ne (tgt := 174) hx hb d_MT_number_153 (by decide) (fun c9 => ?_) (fun c9 => ?_)
  · replace h := o_ff c9 h
    cases h
    exact h1 (Nat.succ_ne_zero 0) _ _ _ hP hS (lv_sub hl [1, 2, 3, 0, 4] rfl)
  · replace h := o_tt c9 h
    refine lv_aload_n hx hb d_MT_number_156 rfl (lv_at hl 1 rfl) ?_
    refine lv_aload_n hx hb d_MT_number_157 rfl (lv_at hl 1 rfl) ?_
    refine o_get (v := .int ((MT_at z.2) + (1:Int32))) C in_MT hP 33 mw_33 rfl 15 (by decide) k_7_129 rfl rfl d_MT_number_158 ?_
    obtain ⟨q7, hq7, h⟩ := o_bd_some h
    refine o_V (st1 := [.int q7]) (w1 := (m_cw ad ca ky ty u118_rt u118_Ni u118_Np u118_No u118_Nx u118_Nf u118_Na u118_Nh u118_Nq u118_Nj (MT_mk (MT_text z.2) (MT_kind z.2) (MT_place z.2) (MT_many z.2) (MT_parent z.2) (MT_power z.2) (MT_first z.2) (MT_next z.2) (MT_name z.2) (MT_from z.2) (MT_characters z.2) (upd (MT_digits z.2) ((MT_written z.2) + z.1).toNatClampNeg (q6 - (48:Int32))) (MT_minus z.2) (MT_values z.2) (MT_letters z.2) ((MT_at z.2) + (1:Int32)) (MT_wrong z.2) (MT_used z.2) (MT_written z.2) (MT_left z.2)) u118_M1)) hE.1 C (e_MT_c_a hE hKy l ((MT_at z.2) + (1:Int32)) (MT_mk (MT_text z.2) (MT_kind z.2) (MT_place z.2) (MT_many z.2) (MT_parent z.2) (MT_power z.2) (MT_first z.2) (MT_next z.2) (MT_name z.2) (MT_from z.2) (MT_characters z.2) (upd (MT_digits z.2) ((MT_written z.2) + z.1).toNatClampNeg (q6 - (48:Int32))) (MT_minus z.2) (MT_values z.2) (MT_letters z.2) ((MT_at z.2) + (1:Int32)) (MT_wrong z.2) (MT_used z.2) (MT_written z.2) (MT_left z.2)) u118_Ni u118_Np u118_No u118_Nx u118_Nf u118_Na u118_Nh u118_Nq u118_Nj u118_M1 u118_rt hq7) hP (hDD _ _ _ _ _ _ _ _ _ _ _ _) hS hl.1 rfl mw_33 k_8_192 k_8_193 k_8_194 k_1_13 k_8_195 hv_MT_c rfl rfl ⟨(Nat.le_of_ble_eq_true rfl), (Nat.le_of_ble_eq_true rfl)⟩ rfl (Nat.le_of_ble_eq_true rfl) ⟨Nat.zero_le _, Nat.zero_le _⟩ rfl d_MT_number_161 (fun H locs hP hS => ?_)
    refine lv_bipush (v := (48:Int32)) hx hb d_MT_number_164 (by decide) ?_
    refine lv_bipush (v := (57:Int32)) hx hb d_MT_number_166 (by decide) ?_
    obtain ⟨q8, hq8, h⟩ := o_bd_some h
    refine o_SN (st1 := [.int q8]) (w1 := (m_cw ad ca ky ty u118_rt u118_Ni u118_Np u118_No u118_Nx u118_Nf u118_Na u118_Nh u118_Nq u118_Nj (MT_mk (MT_text z.2) (MT_kind z.2) (MT_place z.2) (MT_many z.2) (MT_parent z.2) (MT_power z.2) (MT_first z.2) (MT_next z.2) (MT_name z.2) (MT_from z.2) (MT_characters z.2) (upd (MT_digits z.2) ((MT_written z.2) + z.1).toNatClampNeg (q6 - (48:Int32))) (MT_minus z.2) (MT_values z.2) (MT_letters z.2) ((MT_at z.2) + (1:Int32)) (MT_wrong z.2) (MT_used z.2) (MT_written z.2) (MT_left z.2)) u118_M1)) hE.1 C (e_MM_in hE hKy l q7 (48:Int32) (57:Int32) u118_Ni u118_Np u118_No u118_Nx u118_Nf u118_Na u118_Nh u118_Nq u118_Nj (MT_mk (MT_text z.2) (MT_kind z.2) (MT_place z.2) (MT_many z.2) (MT_parent z.2) (MT_power z.2) (MT_first z.2) (MT_next z.2) (MT_name z.2) (MT_from z.2) (MT_characters z.2) (upd (MT_digits z.2) ((MT_written z.2) + z.1).toNatClampNeg (q6 - (48:Int32))) (MT_minus z.2) (MT_values z.2) (MT_letters z.2) ((MT_at z.2) + (1:Int32)) (MT_wrong z.2) (MT_used z.2) (MT_written z.2) (MT_left z.2)) u118_M1 u118_rt hq8) hP (hDD _ _ _ _ _ _ _ _ _ _ _ _) hS hl.1 (hE.2.1 _ _ _ C.2.2.2.2.2.2.2.2.2 _ nw_21) k_8_201 k_1_12 k_8_202 hs_MM_in rfl rfl ⟨(Nat.le_of_ble_eq_true rfl), (Nat.le_of_ble_eq_true rfl)⟩ rfl (Nat.le_of_ble_eq_true rfl) ⟨Nat.zero_le _, Nat.zero_le _⟩ rfl d_MT_number_168 (fun H locs hP hS => ?_)
    refine lv_if_ne (tgt := 118) hx hb d_MT_number_171 (by decide) (fun c10 => ?_) (fun c10 => ?_)
    · replace h := o_ff c10 h
      cases h
      exact h0 rfl _ _ _ hP hS (lv_sub hl [1, 2, 3, 0, 4, 5] rfl)
    · replace h := o_tt c10 h
      cases h
      exact h1 (Nat.succ_ne_zero 0) _ _ _ hP hS (lv_sub hl [1, 2, 3, 0, 4] rfl)
set_option maxHeartbeats 4000000 in
set_option maxRecDepth 100000 in
theorem f_MT_number_j479_a {E : (Nat → Prop) → State → Heap → Prop} {p : Program} {l : Launch} {e : Env} {s : State} {m : MethodId} {args : Array Value} {below : List Frame} {meth : Method} {c : Code} {D : va_G} {ad kd sd vd xd : Nat → Nat} {ca : Nat → ClassId} {A : Nat → Prop} {ky ty : Nat → Option Nat} (hE : o_EK E kd sd vd xd) (hKy : m_KY ky ty sd) (C : o_Cx E p s m args meth c D m_cls (m_tys ca) "SchemaJudgeModel$Text" b_MT_number (some .boolean) 10 cc_MT_number A) (hDD : ∀ (rt : Nat) (Ni : SNI) (Np : SNP) (No : SNO) (Nx : SNX) (Nf : SNF) (Na : SNA) (Nh : SNH) (Nq : SNQ) (Nj : SNJ) (M0 : SMT) (M1 : SMT), va_D A (m_cw ad ca ky ty rt Ni Np No Nx Nf Na Nh Nq Nj M0 M1)) (n : Nat) (x3 : Int32) (a0 : SMT) (Ni : SNI) (Np : SNP) (No : SNO) (Nx : SNX) (Nf : SNF) (Na : SNA) (Nh : SNH) (Nq : SNQ) (Nj : SNJ) (M1 : SMT) (rt : Nat) {r : Int32 × SMT} (h : m_MT_number_j479 n x3 a0 = some r) : o_At p l e rm_MT_number s m args below meth c (MQ below (o_Qx D m_cls (some (.int r.1)) (m_cw ad ca ky ty rt Ni Np No Nx Nf Na Nh Nq Nj r.2 M1) A) args s 0 0 A) m_cls D A 10 479 [] (m_cw ad ca ky ty rt Ni Np No Nx Nf Na Nh Nq Nj a0 M1) [(0, .ref (ad 33)), (3, .int x3)] := by
  unfold m_MT_number_j479 at h
  intro H locs ls hP hS hl
  have C0 := C
  obtain ⟨hx, hb, -, -, -, hown, hts, hK, -, -⟩ := C0
  refine lv_aload_n hx hb d_MT_number_479 rfl (lv_at hl 0 rfl) ?_
  refine lv_iload_n hx hb d_MT_number_480 rfl (lv_at hl 1 rfl) ?_
  obtain ⟨q12, hq12, h⟩ := o_bd_some h
  refine o_V (st1 := [.int q12.1]) (w1 := (m_cw ad ca ky ty rt Ni Np No Nx Nf Na Nh Nq Nj q12.2 M1)) hE.1 C (e_MT_bad_a hE hKy l x3 a0 Ni Np No Nx Nf Na Nh Nq Nj M1 rt hq12) hP (hDD _ _ _ _ _ _ _ _ _ _ _ _) hS hl.1 rfl mw_33 k_8_203 k_8_204 k_8_205 k_1_13 k_8_206 hv_MT_bad rfl rfl ⟨(Nat.le_of_ble_eq_true rfl), (Nat.le_of_ble_eq_true rfl)⟩ rfl (Nat.le_of_ble_eq_true rfl) ⟨Nat.zero_le _, Nat.zero_le _⟩ rfl d_MT_number_481 (fun H locs hP hS => ?_)
  obtain ⟨g14, h⟩ := o_gd_some h
  cases h
  exact o_rz C (o_zb_nar g14) hP hS d_MT_number_484
set_option maxHeartbeats 4000000 in
set_option maxRecDepth 100000 in
theorem f_MT_number_b488_a {E : (Nat → Prop) → State → Heap → Prop} {p : Program} {l : Launch} {e : Env} {s : State} {m : MethodId} {args : Array Value} {below : List Frame} {meth : Method} {c : Code} {D : va_G} {ad kd sd vd xd : Nat → Nat} {ca : Nat → ClassId} {A : Nat → Prop} {ky ty : Nat → Option Nat} {Q : State → Prop} (hE : o_EK E kd sd vd xd) (hKy : m_KY ky ty sd) (C : o_Cx E p s m args meth c D m_cls (m_tys ca) "SchemaJudgeModel$Text" b_MT_number (some .boolean) 10 cc_MT_number A) (hDD : ∀ (rt : Nat) (Ni : SNI) (Np : SNP) (No : SNO) (Nx : SNX) (Nf : SNF) (Na : SNA) (Nh : SNH) (Nq : SNQ) (Nj : SNJ) (M0 : SMT) (M1 : SMT), va_D A (m_cw ad ca ky ty rt Ni Np No Nx Nf Na Nh Nq Nj M0 M1)) (n : Nat) (u488_x2 : Int32) (u488_x4 : Int32) (u488_x5 : Int32) (u488_x7 : Int32) (u488_a0 : SMT) (u488_Ni : SNI) (u488_Np : SNP) (u488_No : SNO) (u488_Nx : SNX) (u488_Nf : SNF) (u488_Na : SNA) (u488_Nh : SNH) (u488_Nq : SNQ) (u488_Nj : SNJ) (u488_M1 : SMT) (u488_rt : Nat) (z : Int32) (q : Nat × Int32) (h : m_MT_number_b488 n u488_x2 u488_x4 u488_x5 u488_x7 u488_a0 z = some q) (h0 : q.1 = 0 → o_At p l e rm_MT_number s m args below meth c Q m_cls D A 10 488 [] (m_cw ad ca ky ty u488_rt u488_Ni u488_Np u488_No u488_Nx u488_Nf u488_Na u488_Nh u488_Nq u488_Nj u488_a0 u488_M1) [(0, .ref (ad 33)), (2, .int u488_x2), (4, .int u488_x4), (5, .int u488_x5), (7, .int u488_x7), (9, .int q.2)]) (h1 : q.1 ≠ 0 → (o_At p l e rm_MT_number s m args below meth c Q m_cls D A 10 516 [] (m_cw ad ca ky ty u488_rt u488_Ni u488_Np u488_No u488_Nx u488_Nf u488_Na u488_Nh u488_Nq u488_Nj u488_a0 u488_M1) [(0, .ref (ad 33)), (2, .int u488_x2), (4, .int u488_x4), (5, .int u488_x5), (7, .int u488_x7), (9, .int q.2)])) : o_At p l e rm_MT_number s m args below meth c Q m_cls D A 10 488 [] (m_cw ad ca ky ty u488_rt u488_Ni u488_Np u488_No u488_Nx u488_Nf u488_Na u488_Nh u488_Nq u488_Nj u488_a0 u488_M1) [(0, .ref (ad 33)), (2, .int u488_x2), (4, .int u488_x4), (5, .int u488_x5), (7, .int u488_x7), (9, .int z)] := by
  unfold m_MT_number_b488 at h
  intro H locs ls hP hS hl
  have C0 := C
  obtain ⟨hx, hb, -, -, -, hown, hts, hK, -, -⟩ := C0
  refine lv_iload hx hb d_MT_number_488 (lv_at hl 5 rfl) ?_
  refine lv_iload hx hb d_MT_number_490 (lv_at hl 2 rfl) ?_
  refine lv_icmp_ge (tgt := 516) hx hb d_MT_number_492 (by decide) (fun c16 => ?_) (fun c16 => ?_)
  · replace h := o_tt c16 h
    cases h
    exact h1 (Nat.succ_ne_zero 0) _ _ _ hP hS (lv_sub hl [0, 1, 2, 3, 4, 5] rfl)
  · replace h := o_ff c16 h
    refine lv_aload_n hx hb d_MT_number_495 rfl (lv_at hl 0 rfl) ?_
    refine o_get (v := .ref (ad 45)) C in_MT hP 33 mw_33 rfl 11 (by decide) k_7_122 rfl rfl d_MT_number_496 ?_
    refine lv_aload_n hx hb d_MT_number_499 rfl (lv_at hl 0 rfl) ?_
    refine o_get (v := .int (MT_written u488_a0)) C in_MT hP 33 mw_33 rfl 18 (by decide) k_7_132 rfl rfl d_MT_number_500 ?_
    refine lv_iload hx hb d_MT_number_503 (lv_at hl 5 rfl) ?_
    refine lv_iadd hx hb d_MT_number_505 ?_
    obtain ⟨g17, h⟩ := o_gd_some h
    refine o_iald (f := (MT_digits u488_a0)) C hP 45 43 mw_45 rfl g17 d_MT_number_506 ?_
    refine lv_if_ne (tgt := 516) hx hb d_MT_number_507 (by decide) (fun c18 => ?_) (fun c18 => ?_)
    · replace h := o_ff c18 h
      cases h
      exact h1 (Nat.succ_ne_zero 0) _ _ _ hP hS (lv_sub hl [0, 1, 2, 3, 4, 5] rfl)
    · replace h := o_tt c18 h
      obtain ⟨x9_510, ex9_510⟩ : ∃ y : Int32, y = z + (1:Int32) := ⟨_, rfl⟩
      replace h := o_nm_at ex9_510 h
      refine lv_iinc (v := x9_510) (lv' := [(9, .int x9_510), (0, .ref (ad 33)), (2, .int u488_x2), (4, .int u488_x4), (5, .int u488_x5), (7, .int u488_x7)]) hx hb d_MT_number_510 hl (k := 5) rfl (by rw [ex9_510]; rfl) (by decide) rfl (fun ls hl => ?_)
      refine lv_goto (tgt := 488) hx hb d_MT_number_513 (by decide) ?_
      cases h
      exact h0 rfl _ _ _ hP hS (lv_sub hl [1, 2, 3, 4, 5, 0] rfl)
set_option maxHeartbeats 4000000 in
set_option maxRecDepth 100000 in
theorem f_MT_number_b516_a {E : (Nat → Prop) → State → Heap → Prop} {p : Program} {l : Launch} {e : Env} {s : State} {m : MethodId} {args : Array Value} {below : List Frame} {meth : Method} {c : Code} {D : va_G} {ad kd sd vd xd : Nat → Nat} {ca : Nat → ClassId} {A : Nat → Prop} {ky ty : Nat → Option Nat} {Q : State → Prop} (hE : o_EK E kd sd vd xd) (hKy : m_KY ky ty sd) (C : o_Cx E p s m args meth c D m_cls (m_tys ca) "SchemaJudgeModel$Text" b_MT_number (some .boolean) 10 cc_MT_number A) (hDD : ∀ (rt : Nat) (Ni : SNI) (Np : SNP) (No : SNO) (Nx : SNX) (Nf : SNF) (Na : SNA) (Nh : SNH) (Nq : SNQ) (Nj : SNJ) (M0 : SMT) (M1 : SMT), va_D A (m_cw ad ca ky ty rt Ni Np No Nx Nf Na Nh Nq Nj M0 M1)) (n : Nat) (u516_x2 : Int32) (u516_x7 : Int32) (u516_x9 : Int32) (u516_a0 : SMT) (u516_Ni : SNI) (u516_Np : SNP) (u516_No : SNO) (u516_Nx : SNX) (u516_Nf : SNF) (u516_Na : SNA) (u516_Nh : SNH) (u516_Nq : SNQ) (u516_Nj : SNJ) (u516_M1 : SMT) (u516_rt : Nat) (z : Int32 × Int32) (q : Nat × Int32 × Int32) (h : m_MT_number_b516 n u516_x2 u516_x7 u516_x9 u516_a0 z = some q) (h0 : q.1 = 0 → o_At p l e rm_MT_number s m args below meth c Q m_cls D A 10 516 [] (m_cw ad ca ky ty u516_rt u516_Ni u516_Np u516_No u516_Nx u516_Nf u516_Na u516_Nh u516_Nq u516_Nj u516_a0 u516_M1) [(0, .ref (ad 33)), (2, .int u516_x2), (4, .int q.2.1), (5, .int q.2.2), (7, .int u516_x7), (9, .int u516_x9)]) (h1 : q.1 ≠ 0 → (o_At p l e rm_MT_number s m args below meth c Q m_cls D A 10 549 [] (m_cw ad ca ky ty u516_rt u516_Ni u516_Np u516_No u516_Nx u516_Nf u516_Na u516_Nh u516_Nq u516_Nj u516_a0 u516_M1) [(0, .ref (ad 33)), (2, .int u516_x2), (4, .int q.2.1), (5, .int q.2.2), (7, .int u516_x7), (9, .int u516_x9)])) : o_At p l e rm_MT_number s m args below meth c Q m_cls D A 10 516 [] (m_cw ad ca ky ty u516_rt u516_Ni u516_Np u516_No u516_Nx u516_Nf u516_Na u516_Nh u516_Nq u516_Nj u516_a0 u516_M1) [(0, .ref (ad 33)), (2, .int u516_x2), (4, .int z.1), (5, .int z.2), (7, .int u516_x7), (9, .int u516_x9)] := by
  unfold m_MT_number_b516 at h
  intro H locs ls hP hS hl
  have C0 := C
  obtain ⟨hx, hb, -, -, -, hown, hts, hK, -, -⟩ := C0
  refine lv_iload hx hb d_MT_number_516 (lv_at hl 2 rfl) ?_
  refine lv_iload hx hb d_MT_number_518 (lv_at hl 5 rfl) ?_
  refine lv_icmp_le (tgt := 549) hx hb d_MT_number_520 (by decide) (fun c19 => ?_) (fun c19 => ?_)
  · replace h := o_tt c19 h
    cases h
    exact h1 (Nat.succ_ne_zero 0) _ _ _ hP hS (lv_sub hl [0, 1, 2, 3, 4, 5] rfl)
  · replace h := o_ff c19 h
    refine lv_aload_n hx hb d_MT_number_523 rfl (lv_at hl 0 rfl) ?_
    refine o_get (v := .ref (ad 45)) C in_MT hP 33 mw_33 rfl 11 (by decide) k_7_122 rfl rfl d_MT_number_524 ?_
    refine lv_aload_n hx hb d_MT_number_527 rfl (lv_at hl 0 rfl) ?_
    refine o_get (v := .int (MT_written u516_a0)) C in_MT hP 33 mw_33 rfl 18 (by decide) k_7_132 rfl rfl d_MT_number_528 ?_
    refine lv_iload hx hb d_MT_number_531 (lv_at hl 2 rfl) ?_
    refine lv_iadd hx hb d_MT_number_533 ?_
    refine lv_iconst (v := (1:Int32)) hx hb d_MT_number_534 (by decide) ?_
    refine lv_isub hx hb d_MT_number_535 ?_
    obtain ⟨g20, h⟩ := o_gd_some h
    refine o_iald (f := (MT_digits u516_a0)) C hP 45 43 mw_45 rfl g20 d_MT_number_536 ?_
    refine lv_if_ne (tgt := 549) hx hb d_MT_number_537 (by decide) (fun c21 => ?_) (fun c21 => ?_)
    · replace h := o_ff c21 h
      cases h
      exact h1 (Nat.succ_ne_zero 0) _ _ _ hP hS (lv_sub hl [0, 1, 2, 3, 4, 5] rfl)
    · replace h := o_tt c21 h
      obtain ⟨x4_540, ex4_540⟩ : ∃ y : Int32, y = z.1 + (-1:Int32) := ⟨_, rfl⟩
      replace h := o_nm_at ex4_540 h
      refine lv_iinc (v := x4_540) (lv' := [(4, .int x4_540), (0, .ref (ad 33)), (2, .int u516_x2), (5, .int z.2), (7, .int u516_x7), (9, .int u516_x9)]) hx hb d_MT_number_540 hl (k := 2) rfl (by rw [ex4_540]; rfl) (by decide) rfl (fun ls hl => ?_)
      obtain ⟨x5_543, ex5_543⟩ : ∃ y : Int32, y = z.2 + (-1:Int32) := ⟨_, rfl⟩
      replace h := o_nm_at ex5_543 h
      refine lv_iinc (v := x5_543) (lv' := [(5, .int x5_543), (4, .int x4_540), (0, .ref (ad 33)), (2, .int u516_x2), (7, .int u516_x7), (9, .int u516_x9)]) hx hb d_MT_number_543 hl (k := 3) rfl (by rw [ex5_543]; rfl) (by decide) rfl (fun ls hl => ?_)
      refine lv_goto (tgt := 516) hx hb d_MT_number_546 (by decide) ?_
      cases h
      exact h0 rfl _ _ _ hP hS (lv_sub hl [2, 3, 1, 0, 4, 5] rfl)
set_option maxHeartbeats 4000000 in
set_option maxRecDepth 100000 in
theorem f_MT_number_j613_a {E : (Nat → Prop) → State → Heap → Prop} {p : Program} {l : Launch} {e : Env} {s : State} {m : MethodId} {args : Array Value} {below : List Frame} {meth : Method} {c : Code} {D : va_G} {ad kd sd vd xd : Nat → Nat} {ca : Nat → ClassId} {A : Nat → Prop} {ky ty : Nat → Option Nat} (hE : o_EK E kd sd vd xd) (hKy : m_KY ky ty sd) (C : o_Cx E p s m args meth c D m_cls (m_tys ca) "SchemaJudgeModel$Text" b_MT_number (some .boolean) 10 cc_MT_number A) (hDD : ∀ (rt : Nat) (Ni : SNI) (Np : SNP) (No : SNO) (Nx : SNX) (Nf : SNF) (Na : SNA) (Nh : SNH) (Nq : SNQ) (Nj : SNJ) (M0 : SMT) (M1 : SMT), va_D A (m_cw ad ca ky ty rt Ni Np No Nx Nf Na Nh Nq Nj M0 M1)) (n : Nat) (x4 : Int32) (a0 : SMT) (Ni : SNI) (Np : SNP) (No : SNO) (Nx : SNX) (Nf : SNF) (Na : SNA) (Nh : SNH) (Nq : SNQ) (Nj : SNJ) (M1 : SMT) (rt : Nat) {r : Int32 × SMT} (h : m_MT_number_j613 n x4 a0 = some r) : o_At p l e rm_MT_number s m args below meth c (MQ below (o_Qx D m_cls (some (.int r.1)) (m_cw ad ca ky ty rt Ni Np No Nx Nf Na Nh Nq Nj r.2 M1) A) args s 0 0 A) m_cls D A 10 613 [] (m_cw ad ca ky ty rt Ni Np No Nx Nf Na Nh Nq Nj a0 M1) [(0, .ref (ad 33)), (4, .int x4)] := by
  unfold m_MT_number_j613 at h
  intro H locs ls hP hS hl
  have C0 := C
  obtain ⟨hx, hb, -, -, -, hown, hts, hK, -, -⟩ := C0
  refine lv_aload_n hx hb d_MT_number_613 rfl (lv_at hl 0 rfl) ?_
  refine lv_dup hx hb d_MT_number_614 rfl ?_
  refine o_get (v := .int (MT_written a0)) C in_MT hP 33 mw_33 rfl 18 (by decide) k_7_132 rfl rfl d_MT_number_615 ?_
  refine lv_iload hx hb d_MT_number_618 (lv_at hl 1 rfl) ?_
  refine lv_iadd hx hb d_MT_number_620 ?_
  refine o_put (v := .int ((MT_written a0) + x4)) (ty := .int) (w1 := (m_cw ad ca ky ty rt Ni Np No Nx Nf Na Nh Nq Nj (MT_mk (MT_text a0) (MT_kind a0) (MT_place a0) (MT_many a0) (MT_parent a0) (MT_power a0) (MT_first a0) (MT_next a0) (MT_name a0) (MT_from a0) (MT_characters a0) (MT_digits a0) (MT_minus a0) (MT_values a0) (MT_letters a0) (MT_at a0) (MT_wrong a0) (MT_used a0) ((MT_written a0) + x4) (MT_left a0)) M1)) C in_MT t_MT t_MT_ok n_MT hP (hDD _ _ _ _ _ _ _ _ _ _ _ _) hS 33 mw_33 rfl 18 (by decide) k_7_132 rfl rfl (by decide +kernel) rfl rfl (Nat.le_of_ble_eq_true rfl) rfl d_MT_number_621 (fun H locs hP hS => ?_)
  refine lv_iconst (v := (1:Int32)) hx hb d_MT_number_624 (by decide) ?_
  cases h
  exact o_rz (v := (1:Int32)) C o_nar1 hP hS d_MT_number_625
set_option maxHeartbeats 4000000 in
set_option maxRecDepth 100000 in
theorem f_MT_number_j596_a {E : (Nat → Prop) → State → Heap → Prop} {p : Program} {l : Launch} {e : Env} {s : State} {m : MethodId} {args : Array Value} {below : List Frame} {meth : Method} {c : Code} {D : va_G} {ad kd sd vd xd : Nat → Nat} {ca : Nat → ClassId} {A : Nat → Prop} {ky ty : Nat → Option Nat} (hE : o_EK E kd sd vd xd) (hKy : m_KY ky ty sd) (C : o_Cx E p s m args meth c D m_cls (m_tys ca) "SchemaJudgeModel$Text" b_MT_number (some .boolean) 10 cc_MT_number A) (hDD : ∀ (rt : Nat) (Ni : SNI) (Np : SNP) (No : SNO) (Nx : SNX) (Nf : SNF) (Na : SNA) (Nh : SNH) (Nq : SNQ) (Nj : SNJ) (M0 : SMT) (M1 : SMT), va_D A (m_cw ad ca ky ty rt Ni Np No Nx Nf Na Nh Nq Nj M0 M1)) (n : Nat) (x2 : Int32) (x4 : Int32) (y1 : Int32) (y2 : Int32) (a0 : SMT) (Ni : SNI) (Np : SNP) (No : SNO) (Nx : SNX) (Nf : SNF) (Na : SNA) (Nh : SNH) (Nq : SNQ) (Nj : SNJ) (M1 : SMT) (rt : Nat) {r : Int32 × SMT} (h : m_MT_number_j596 n x2 x4 y1 y2 a0 = some r) : o_At p l e rm_MT_number s m args below meth c (MQ below (o_Qx D m_cls (some (.int r.1)) (m_cw ad ca ky ty rt Ni Np No Nx Nf Na Nh Nq Nj r.2 M1) A) args s 0 0 A) m_cls D A 10 596 [.int y2, .int y1, .ref (ad 39)] (m_cw ad ca ky ty rt Ni Np No Nx Nf Na Nh Nq Nj a0 M1) [(0, .ref (ad 33)), (2, .int x2), (4, .int x4)] := by
  unfold m_MT_number_j596 at h
  intro H locs ls hP hS hl
  have C0 := C
  obtain ⟨hx, hb, -, -, -, hown, hts, hK, -, -⟩ := C0
  obtain ⟨g26, h⟩ := o_gd_some h
  refine o_iast (f := (MT_power a0)) (w1 := (m_cw ad ca ky ty rt Ni Np No Nx Nf Na Nh Nq Nj (MT_mk (MT_text a0) (MT_kind a0) (MT_place a0) (MT_many a0) (MT_parent a0) (upd (MT_power a0) y1.toNatClampNeg y2) (MT_first a0) (MT_next a0) (MT_name a0) (MT_from a0) (MT_characters a0) (MT_digits a0) (MT_minus a0) (MT_values a0) (MT_letters a0) (MT_at a0) (MT_wrong a0) (MT_used a0) (MT_written a0) (MT_left a0)) M1)) C hP (hDD _ _ _ _ _ _ _ _ _ _ _ _) hS 39 37 mw_39 rfl g26 rfl d_MT_number_596 (fun H locs hP hS => ?_)
  refine lv_aload_n hx hb d_MT_number_597 rfl (lv_at hl 0 rfl) ?_
  refine o_get (v := .ref (ad 37)) C in_MT hP 33 mw_33 rfl 3 (by decide) k_7_106 rfl rfl d_MT_number_598 ?_
  refine lv_iload_n hx hb d_MT_number_601 rfl (lv_at hl 1 rfl) ?_
  obtain ⟨g27, h⟩ := o_gd_some h
  refine o_iald (f := (MT_many a0)) C hP 37 35 mw_37 rfl g27 d_MT_number_602 ?_
  refine lv_if_ne (tgt := 613) hx hb d_MT_number_603 (by decide) (fun c28 => ?_) (fun c28 => ?_)
  · replace h := o_ff c28 h
    exact f_MT_number_j613_a hE hKy C hDD n x4 (MT_mk (MT_text a0) (MT_kind a0) (MT_place a0) (MT_many a0) (MT_parent a0) (upd (MT_power a0) y1.toNatClampNeg y2) (MT_first a0) (MT_next a0) (MT_name a0) (MT_from a0) (MT_characters a0) (MT_digits a0) (MT_minus a0) (MT_values a0) (MT_letters a0) (MT_at a0) (MT_wrong a0) (MT_used a0) (MT_written a0) (MT_left a0)) Ni Np No Nx Nf Na Nh Nq Nj M1 rt h _ _ _ hP hS (lv_sub hl [0, 2] rfl)
  · replace h := o_tt c28 h
    refine lv_aload_n hx hb d_MT_number_606 rfl (lv_at hl 0 rfl) ?_
    refine o_get (v := .ref (ad 46)) C in_MT hP 33 mw_33 rfl 12 (by decide) k_7_124 rfl rfl d_MT_number_607 ?_
    refine lv_iload_n hx hb d_MT_number_610 rfl (lv_at hl 1 rfl) ?_
    refine lv_iconst (v := (0:Int32)) hx hb d_MT_number_611 (by decide) ?_
    obtain ⟨g29, h⟩ := o_gd_some h
    refine o_zast (f := (MT_minus a0)) (w1 := (m_cw ad ca ky ty rt Ni Np No Nx Nf Na Nh Nq Nj (MT_mk (MT_text a0) (MT_kind a0) (MT_place a0) (MT_many a0) (MT_parent a0) (upd (MT_power a0) y1.toNatClampNeg y2) (MT_first a0) (MT_next a0) (MT_name a0) (MT_from a0) (MT_characters a0) (MT_digits a0) (upd (MT_minus a0) x2.toNatClampNeg (vp_nar .boolean (0:Int32))) (MT_values a0) (MT_letters a0) (MT_at a0) (MT_wrong a0) (MT_used a0) (MT_written a0) (MT_left a0)) M1)) C hP (hDD _ _ _ _ _ _ _ _ _ _ _ _) hS 46 44 mw_46 rfl g29 rfl d_MT_number_612 (fun H locs hP hS => ?_)
    exact f_MT_number_j613_a hE hKy C hDD n x4 (MT_mk (MT_text a0) (MT_kind a0) (MT_place a0) (MT_many a0) (MT_parent a0) (upd (MT_power a0) y1.toNatClampNeg y2) (MT_first a0) (MT_next a0) (MT_name a0) (MT_from a0) (MT_characters a0) (MT_digits a0) (upd (MT_minus a0) x2.toNatClampNeg (vp_nar .boolean (0:Int32))) (MT_values a0) (MT_letters a0) (MT_at a0) (MT_wrong a0) (MT_used a0) (MT_written a0) (MT_left a0)) Ni Np No Nx Nf Na Nh Nq Nj M1 rt h _ _ _ hP hS (lv_sub hl [0, 2] rfl)
set_option maxHeartbeats 4000000 in
set_option maxRecDepth 100000 in
theorem f_MT_number_j549_a {E : (Nat → Prop) → State → Heap → Prop} {p : Program} {l : Launch} {e : Env} {s : State} {m : MethodId} {args : Array Value} {below : List Frame} {meth : Method} {c : Code} {D : va_G} {ad kd sd vd xd : Nat → Nat} {ca : Nat → ClassId} {A : Nat → Prop} {ky ty : Nat → Option Nat} (hE : o_EK E kd sd vd xd) (hKy : m_KY ky ty sd) (C : o_Cx E p s m args meth c D m_cls (m_tys ca) "SchemaJudgeModel$Text" b_MT_number (some .boolean) 10 cc_MT_number A) (hDD : ∀ (rt : Nat) (Ni : SNI) (Np : SNP) (No : SNO) (Nx : SNX) (Nf : SNF) (Na : SNA) (Nh : SNH) (Nq : SNQ) (Nj : SNJ) (M0 : SMT) (M1 : SMT), va_D A (m_cw ad ca ky ty rt Ni Np No Nx Nf Na Nh Nq Nj M0 M1)) (n : Nat) (x2 : Int32) (x4 : Int32) (x5 : Int32) (x7 : Int32) (x9 : Int32) (a0 : SMT) (Ni : SNI) (Np : SNP) (No : SNO) (Nx : SNX) (Nf : SNF) (Na : SNA) (Nh : SNH) (Nq : SNQ) (Nj : SNJ) (M1 : SMT) (rt : Nat) {r : Int32 × SMT} (h : m_MT_number_j549 n x2 x4 x5 x7 x9 a0 = some r) : o_At p l e rm_MT_number s m args below meth c (MQ below (o_Qx D m_cls (some (.int r.1)) (m_cw ad ca ky ty rt Ni Np No Nx Nf Na Nh Nq Nj r.2 M1) A) args s 0 0 A) m_cls D A 10 549 [] (m_cw ad ca ky ty rt Ni Np No Nx Nf Na Nh Nq Nj a0 M1) [(0, .ref (ad 33)), (2, .int x2), (4, .int x4), (5, .int x5), (7, .int x7), (9, .int x9)] := by
  unfold m_MT_number_j549 at h
  intro H locs ls hP hS hl
  have C0 := C
  obtain ⟨hx, hb, -, -, -, hown, hts, hK, -, -⟩ := C0
  refine lv_aload_n hx hb d_MT_number_549 rfl (lv_at hl 0 rfl) ?_
  refine o_get (v := .ref (ad 43)) C in_MT hP 33 mw_33 rfl 9 (by decide) k_7_118 rfl rfl d_MT_number_550 ?_
  refine lv_iload_n hx hb d_MT_number_553 rfl (lv_at hl 1 rfl) ?_
  refine lv_aload_n hx hb d_MT_number_554 rfl (lv_at hl 0 rfl) ?_
  refine o_get (v := .int (MT_written a0)) C in_MT hP 33 mw_33 rfl 18 (by decide) k_7_132 rfl rfl d_MT_number_555 ?_
  refine lv_iload hx hb d_MT_number_558 (lv_at hl 5 rfl) ?_
  refine lv_iadd hx hb d_MT_number_560 ?_
  obtain ⟨g22, h⟩ := o_gd_some h
  refine o_iast (f := (MT_from a0)) (w1 := (m_cw ad ca ky ty rt Ni Np No Nx Nf Na Nh Nq Nj (MT_mk (MT_text a0) (MT_kind a0) (MT_place a0) (MT_many a0) (MT_parent a0) (MT_power a0) (MT_first a0) (MT_next a0) (MT_name a0) (upd (MT_from a0) x2.toNatClampNeg ((MT_written a0) + x9)) (MT_characters a0) (MT_digits a0) (MT_minus a0) (MT_values a0) (MT_letters a0) (MT_at a0) (MT_wrong a0) (MT_used a0) (MT_written a0) (MT_left a0)) M1)) C hP (hDD _ _ _ _ _ _ _ _ _ _ _ _) hS 43 41 mw_43 rfl g22 rfl d_MT_number_561 (fun H locs hP hS => ?_)
  refine lv_aload_n hx hb d_MT_number_562 rfl (lv_at hl 0 rfl) ?_
  refine o_get (v := .ref (ad 37)) C in_MT hP 33 mw_33 rfl 3 (by decide) k_7_106 rfl rfl d_MT_number_563 ?_
  refine lv_iload_n hx hb d_MT_number_566 rfl (lv_at hl 1 rfl) ?_
  refine lv_iload hx hb d_MT_number_567 (lv_at hl 2 rfl) ?_
  refine lv_iload hx hb d_MT_number_569 (lv_at hl 5 rfl) ?_
  refine lv_isub hx hb d_MT_number_571 ?_
  obtain ⟨g23, h⟩ := o_gd_some h
  refine o_iast (f := (MT_many a0)) (w1 := (m_cw ad ca ky ty rt Ni Np No Nx Nf Na Nh Nq Nj (MT_mk (MT_text a0) (MT_kind a0) (MT_place a0) (upd (MT_many a0) x2.toNatClampNeg (x4 - x9)) (MT_parent a0) (MT_power a0) (MT_first a0) (MT_next a0) (MT_name a0) (upd (MT_from a0) x2.toNatClampNeg ((MT_written a0) + x9)) (MT_characters a0) (MT_digits a0) (MT_minus a0) (MT_values a0) (MT_letters a0) (MT_at a0) (MT_wrong a0) (MT_used a0) (MT_written a0) (MT_left a0)) M1)) C hP (hDD _ _ _ _ _ _ _ _ _ _ _ _) hS 37 35 mw_37 rfl g23 rfl d_MT_number_572 (fun H locs hP hS => ?_)
  refine lv_aload_n hx hb d_MT_number_573 rfl (lv_at hl 0 rfl) ?_
  refine o_get (v := .ref (ad 39)) C in_MT hP 33 mw_33 rfl 5 (by decide) k_7_110 rfl rfl d_MT_number_574 ?_
  refine lv_iload_n hx hb d_MT_number_577 rfl (lv_at hl 1 rfl) ?_
  refine lv_aload_n hx hb d_MT_number_578 rfl (lv_at hl 0 rfl) ?_
  refine o_get (v := .ref (ad 37)) C in_MT hP 33 mw_33 rfl 3 (by decide) k_7_106 rfl rfl d_MT_number_579 ?_
  refine lv_iload_n hx hb d_MT_number_582 rfl (lv_at hl 1 rfl) ?_
  obtain ⟨g24, h⟩ := o_gd_some h
  refine o_iald (f := (upd (MT_many a0) x2.toNatClampNeg (x4 - x9))) C hP 37 35 mw_37 rfl g24 d_MT_number_583 ?_
  refine lv_if_ne (tgt := 591) hx hb d_MT_number_584 (by decide) (fun c25 => ?_) (fun c25 => ?_)
  · replace h := o_ff c25 h
    refine lv_iload hx hb d_MT_number_591 (lv_at hl 4 rfl) ?_
    refine lv_iload hx hb d_MT_number_593 (lv_at hl 3 rfl) ?_
    refine lv_isub hx hb d_MT_number_595 ?_
    exact f_MT_number_j596_a hE hKy C hDD n x2 x4 x2 (x7 - x5) (MT_mk (MT_text a0) (MT_kind a0) (MT_place a0) (upd (MT_many a0) x2.toNatClampNeg (x4 - x9)) (MT_parent a0) (MT_power a0) (MT_first a0) (MT_next a0) (MT_name a0) (upd (MT_from a0) x2.toNatClampNeg ((MT_written a0) + x9)) (MT_characters a0) (MT_digits a0) (MT_minus a0) (MT_values a0) (MT_letters a0) (MT_at a0) (MT_wrong a0) (MT_used a0) (MT_written a0) (MT_left a0)) Ni Np No Nx Nf Na Nh Nq Nj M1 rt h _ _ _ hP hS (lv_sub hl [0, 1, 2] rfl)
  · replace h := o_tt c25 h
    refine lv_iconst (v := (0:Int32)) hx hb d_MT_number_587 (by decide) ?_
    refine lv_goto (tgt := 596) hx hb d_MT_number_588 (by decide) ?_
    exact f_MT_number_j596_a hE hKy C hDD n x2 x4 x2 (0:Int32) (MT_mk (MT_text a0) (MT_kind a0) (MT_place a0) (upd (MT_many a0) x2.toNatClampNeg (x4 - x9)) (MT_parent a0) (MT_power a0) (MT_first a0) (MT_next a0) (MT_name a0) (upd (MT_from a0) x2.toNatClampNeg ((MT_written a0) + x9)) (MT_characters a0) (MT_digits a0) (MT_minus a0) (MT_values a0) (MT_letters a0) (MT_at a0) (MT_wrong a0) (MT_used a0) (MT_written a0) (MT_left a0)) Ni Np No Nx Nf Na Nh Nq Nj M1 rt h _ _ _ hP hS (lv_sub hl [0, 1, 2] rfl)
set_option maxHeartbeats 4000000 in
set_option maxRecDepth 100000 in
theorem f_MT_number_j466_a {E : (Nat → Prop) → State → Heap → Prop} {p : Program} {l : Launch} {e : Env} {s : State} {m : MethodId} {args : Array Value} {below : List Frame} {meth : Method} {c : Code} {D : va_G} {ad kd sd vd xd : Nat → Nat} {ca : Nat → ClassId} {A : Nat → Prop} {ky ty : Nat → Option Nat} (hE : o_EK E kd sd vd xd) (hKy : m_KY ky ty sd) (C : o_Cx E p s m args meth c D m_cls (m_tys ca) "SchemaJudgeModel$Text" b_MT_number (some .boolean) 10 cc_MT_number A) (hDD : ∀ (rt : Nat) (Ni : SNI) (Np : SNP) (No : SNO) (Nx : SNX) (Nf : SNF) (Na : SNA) (Nh : SNH) (Nq : SNQ) (Nj : SNJ) (M0 : SMT) (M1 : SMT), va_D A (m_cw ad ca ky ty rt Ni Np No Nx Nf Na Nh Nq Nj M0 M1)) (n : Nat) (x2 : Int32) (x3 : Int32) (x4 : Int32) (x5 : Int32) (x7 : Int32) (x8 : Int32) (a0 : SMT) (Ni : SNI) (Np : SNP) (No : SNO) (Nx : SNX) (Nf : SNF) (Na : SNA) (Nh : SNH) (Nq : SNQ) (Nj : SNJ) (M1 : SMT) (rt : Nat) {r : Int32 × SMT} (h : m_MT_number_j466 n x2 x3 x4 x5 x7 x8 a0 = some r) : o_At p l e rm_MT_number s m args below meth c (MQ below (o_Qx D m_cls (some (.int r.1)) (m_cw ad ca ky ty rt Ni Np No Nx Nf Na Nh Nq Nj r.2 M1) A) args s 0 0 A) m_cls D A 10 466 [] (m_cw ad ca ky ty rt Ni Np No Nx Nf Na Nh Nq Nj a0 M1) [(0, .ref (ad 33)), (2, .int x2), (3, .int x3), (4, .int x4), (5, .int x5), (7, .int x7), (8, .int x8)] := by
  unfold m_MT_number_j466 at h
  intro H locs ls hP hS hl
  have C0 := C
  obtain ⟨hx, hb, -, -, -, hown, hts, hK, -, -⟩ := C0
  refine lv_iload hx hb d_MT_number_466 (lv_at hl 3 rfl) ?_
  refine lv_bipush (v := (60:Int32)) hx hb d_MT_number_468 (by decide) ?_
  refine lv_icmp_gt (tgt := 479) hx hb d_MT_number_470 (by decide) (fun c13 => ?_) (fun c13 => ?_)
  · replace h := o_tt c13 h
    exact f_MT_number_j479_a hE hKy C hDD n x3 a0 Ni Np No Nx Nf Na Nh Nq Nj M1 rt h _ _ _ hP hS (lv_sub hl [0, 2] rfl)
  · replace h := o_ff c13 h
    refine lv_iload hx hb d_MT_number_473 (lv_at hl 6 rfl) ?_
    refine lv_iconst (v := (3:Int32)) hx hb d_MT_number_475 (by decide) ?_
    refine lv_icmp_le (tgt := 485) hx hb d_MT_number_476 (by decide) (fun c15 => ?_) (fun c15 => ?_)
    · replace h := o_tt c15 h
      refine lv_iconst (v := (0:Int32)) hx hb d_MT_number_485 (by decide) ?_
      refine lv_istore (lv' := [(9, .int (0:Int32)), (0, .ref (ad 33)), (2, .int x2), (3, .int x3), (4, .int x4), (5, .int x5), (7, .int x7), (8, .int x8)]) hx hb d_MT_number_486 hl (by decide) rfl (fun ls hl => ?_)
      obtain ⟨q13, hq13, h⟩ := o_bd_some h
      refine o_sim2 (AH := fun zz => o_At p l e rm_MT_number s m args below meth c _ m_cls D A 10 488 [] (m_cw ad ca ky ty rt Ni Np No Nx Nf Na Nh Nq Nj a0 M1) [(0, .ref (ad 33)), (2, .int x2), (4, .int x4), (5, .int x5), (7, .int x7), (9, .int zz)]) (AX := fun qq => o_At p l e rm_MT_number s m args below meth c _ m_cls D A 10 516 [] (m_cw ad ca ky ty rt Ni Np No Nx Nf Na Nh Nq Nj a0 M1) [(0, .ref (ad 33)), (2, .int x2), (4, .int x4), (5, .int x5), (7, .int x7), (9, .int qq.2)]) (fun zz qq h h0 h1 => f_MT_number_b488_a hE hKy C hDD n x2 x4 x5 x7 a0 Ni Np No Nx Nf Na Nh Nq Nj M1 rt zz qq h h0 h1) n _ q13 hq13 ?_ _ _ _ hP hS (lv_sub hl [1, 2, 4, 5, 6, 0] rfl)
      intro H locs ls hP hS hl
      obtain ⟨q14, hq14, h⟩ := o_bd_some h
      refine o_sim2 (AH := fun zz => o_At p l e rm_MT_number s m args below meth c _ m_cls D A 10 516 [] (m_cw ad ca ky ty rt Ni Np No Nx Nf Na Nh Nq Nj a0 M1) [(0, .ref (ad 33)), (2, .int x2), (4, .int zz.1), (5, .int zz.2), (7, .int x7), (9, .int q13.2)]) (AX := fun qq => o_At p l e rm_MT_number s m args below meth c _ m_cls D A 10 549 [] (m_cw ad ca ky ty rt Ni Np No Nx Nf Na Nh Nq Nj a0 M1) [(0, .ref (ad 33)), (2, .int x2), (4, .int qq.2.1), (5, .int qq.2.2), (7, .int x7), (9, .int q13.2)]) (fun zz qq h h0 h1 => f_MT_number_b516_a hE hKy C hDD n x2 x7 q13.2 a0 Ni Np No Nx Nf Na Nh Nq Nj M1 rt zz qq h h0 h1) n _ q14 hq14 ?_ _ _ _ hP hS (lv_sub hl [0, 1, 2, 3, 4, 5] rfl)
      intro H locs ls hP hS hl
      exact f_MT_number_j549_a hE hKy C hDD n x2 q14.2.1 q14.2.2 x7 q13.2 a0 Ni Np No Nx Nf Na Nh Nq Nj M1 rt h _ _ _ hP hS (lv_sub hl [0, 1, 2, 3, 4, 5] rfl)
    · replace h := o_ff c15 h
      exact f_MT_number_j479_a hE hKy C hDD n x3 a0 Ni Np No Nx Nf Na Nh Nq Nj M1 rt h _ _ _ hP hS (lv_sub hl [0, 2] rfl)
set_option maxHeartbeats 4000000 in
set_option maxRecDepth 100000 in
theorem f_MT_number_j440_a {E : (Nat → Prop) → State → Heap → Prop} {p : Program} {l : Launch} {e : Env} {s : State} {m : MethodId} {args : Array Value} {below : List Frame} {meth : Method} {c : Code} {D : va_G} {ad kd sd vd xd : Nat → Nat} {ca : Nat → ClassId} {A : Nat → Prop} {ky ty : Nat → Option Nat} {Q : State → Prop} (hE : o_EK E kd sd vd xd) (hKy : m_KY ky ty sd) (C : o_Cx E p s m args meth c D m_cls (m_tys ca) "SchemaJudgeModel$Text" b_MT_number (some .boolean) 10 cc_MT_number A) (hDD : ∀ (rt : Nat) (Ni : SNI) (Np : SNP) (No : SNO) (Nx : SNX) (Nf : SNF) (Na : SNA) (Nh : SNH) (Nq : SNQ) (Nj : SNJ) (M0 : SMT) (M1 : SMT), va_D A (m_cw ad ca ky ty rt Ni Np No Nx Nf Na Nh Nq Nj M0 M1)) (n : Nat) (u396_x2 : Int32) (u396_x3 : Int32) (u396_x4 : Int32) (u396_x5 : Int32) (u396_x9 : Int32) (u396_Ni : SNI) (u396_Np : SNP) (u396_No : SNO) (u396_Nx : SNX) (u396_Nf : SNF) (u396_Na : SNA) (u396_Nh : SNH) (u396_Nq : SNQ) (u396_Nj : SNJ) (u396_M1 : SMT) (u396_rt : Nat) (x7 : Int32) (x8 : Int32) (a0 : SMT) {q : Nat × Int32 × Int32 × SMT} (h : m_MT_number_j440 n u396_x2 u396_x3 u396_x4 u396_x5 x7 x8 u396_x9 a0 = some q) (h0 : q.1 = 0 → o_At p l e rm_MT_number s m args below meth c Q m_cls D A 10 396 [] (m_cw ad ca ky ty u396_rt u396_Ni u396_Np u396_No u396_Nx u396_Nf u396_Na u396_Nh u396_Nq u396_Nj q.2.2.2 u396_M1) [(0, .ref (ad 33)), (2, .int u396_x2), (3, .int u396_x3), (4, .int u396_x4), (5, .int u396_x5), (7, .int q.2.1), (8, .int q.2.2.1), (9, .int u396_x9)]) (h1 : q.1 ≠ 0 → (o_At p l e rm_MT_number s m args below meth c Q m_cls D A 10 456 [] (m_cw ad ca ky ty u396_rt u396_Ni u396_Np u396_No u396_Nx u396_Nf u396_Na u396_Nh u396_Nq u396_Nj q.2.2.2 u396_M1) [(0, .ref (ad 33)), (2, .int u396_x2), (3, .int u396_x3), (4, .int u396_x4), (5, .int u396_x5), (7, .int q.2.1), (8, .int q.2.2.1), (9, .int u396_x9)])) : o_At p l e rm_MT_number s m args below meth c Q m_cls D A 10 440 [] (m_cw ad ca ky ty u396_rt u396_Ni u396_Np u396_No u396_Nx u396_Nf u396_Na u396_Nh u396_Nq u396_Nj a0 u396_M1) [(0, .ref (ad 33)), (2, .int u396_x2), (3, .int u396_x3), (4, .int u396_x4), (5, .int u396_x5), (7, .int x7), (8, .int x8), (9, .int u396_x9)] := by
  unfold m_MT_number_j440 at h
  intro H locs ls hP hS hl
  have C0 := C
  obtain ⟨hx, hb, -, -, -, hown, hts, hK, -, -⟩ := C0
  refine lv_aload_n hx hb d_MT_number_440 rfl (lv_at hl 0 rfl) ?_
  refine lv_dup hx hb d_MT_number_441 rfl ?_
  refine o_get (v := .int (MT_at a0)) C in_MT hP 33 mw_33 rfl 15 (by decide) k_7_129 rfl rfl d_MT_number_442 ?_
  refine lv_iconst (v := (1:Int32)) hx hb d_MT_number_445 (by decide) ?_
  refine lv_iadd hx hb d_MT_number_446 ?_
  refine o_put (v := .int ((MT_at a0) + (1:Int32))) (ty := .int) (w1 := (m_cw ad ca ky ty u396_rt u396_Ni u396_Np u396_No u396_Nx u396_Nf u396_Na u396_Nh u396_Nq u396_Nj (MT_mk (MT_text a0) (MT_kind a0) (MT_place a0) (MT_many a0) (MT_parent a0) (MT_power a0) (MT_first a0) (MT_next a0) (MT_name a0) (MT_from a0) (MT_characters a0) (MT_digits a0) (MT_minus a0) (MT_values a0) (MT_letters a0) ((MT_at a0) + (1:Int32)) (MT_wrong a0) (MT_used a0) (MT_written a0) (MT_left a0)) u396_M1)) C in_MT t_MT t_MT_ok n_MT hP (hDD _ _ _ _ _ _ _ _ _ _ _ _) hS 33 mw_33 rfl 15 (by decide) k_7_129 rfl rfl (by decide +kernel) rfl rfl (Nat.le_of_ble_eq_true rfl) rfl d_MT_number_447 (fun H locs hP hS => ?_)
  obtain ⟨x8_450, ex8_450⟩ : ∃ y : Int32, y = x8 + (1:Int32) := ⟨_, rfl⟩
  replace h := o_nm_at ex8_450 h
  refine lv_iinc (v := x8_450) (lv' := [(8, .int x8_450), (0, .ref (ad 33)), (2, .int u396_x2), (3, .int u396_x3), (4, .int u396_x4), (5, .int u396_x5), (7, .int x7), (9, .int u396_x9)]) hx hb d_MT_number_450 hl (k := 6) rfl (by rw [ex8_450]; rfl) (by decide) rfl (fun ls hl => ?_)
  refine lv_goto (tgt := 396) hx hb d_MT_number_453 (by decide) ?_
  cases h
  exact h0 rfl _ _ _ hP hS (lv_sub hl [1, 2, 3, 4, 5, 6, 0, 7] rfl)
set_option maxHeartbeats 4000000 in
set_option maxRecDepth 100000 in
theorem f_MT_number_b396_a {E : (Nat → Prop) → State → Heap → Prop} {p : Program} {l : Launch} {e : Env} {s : State} {m : MethodId} {args : Array Value} {below : List Frame} {meth : Method} {c : Code} {D : va_G} {ad kd sd vd xd : Nat → Nat} {ca : Nat → ClassId} {A : Nat → Prop} {ky ty : Nat → Option Nat} {Q : State → Prop} (hE : o_EK E kd sd vd xd) (hKy : m_KY ky ty sd) (C : o_Cx E p s m args meth c D m_cls (m_tys ca) "SchemaJudgeModel$Text" b_MT_number (some .boolean) 10 cc_MT_number A) (hDD : ∀ (rt : Nat) (Ni : SNI) (Np : SNP) (No : SNO) (Nx : SNX) (Nf : SNF) (Na : SNA) (Nh : SNH) (Nq : SNQ) (Nj : SNJ) (M0 : SMT) (M1 : SMT), va_D A (m_cw ad ca ky ty rt Ni Np No Nx Nf Na Nh Nq Nj M0 M1)) (n : Nat) (u396_x2 : Int32) (u396_x3 : Int32) (u396_x4 : Int32) (u396_x5 : Int32) (u396_x9 : Int32) (u396_Ni : SNI) (u396_Np : SNP) (u396_No : SNO) (u396_Nx : SNX) (u396_Nf : SNF) (u396_Na : SNA) (u396_Nh : SNH) (u396_Nq : SNQ) (u396_Nj : SNJ) (u396_M1 : SMT) (u396_rt : Nat) (z : Int32 × Int32 × SMT) (q : Nat × Int32 × Int32 × SMT) (h : m_MT_number_b396 n u396_x2 u396_x3 u396_x4 u396_x5 u396_x9 z = some q) (h0 : q.1 = 0 → o_At p l e rm_MT_number s m args below meth c Q m_cls D A 10 396 [] (m_cw ad ca ky ty u396_rt u396_Ni u396_Np u396_No u396_Nx u396_Nf u396_Na u396_Nh u396_Nq u396_Nj q.2.2.2 u396_M1) [(0, .ref (ad 33)), (2, .int u396_x2), (3, .int u396_x3), (4, .int u396_x4), (5, .int u396_x5), (7, .int q.2.1), (8, .int q.2.2.1), (9, .int u396_x9)]) (h1 : q.1 ≠ 0 → (o_At p l e rm_MT_number s m args below meth c Q m_cls D A 10 456 [] (m_cw ad ca ky ty u396_rt u396_Ni u396_Np u396_No u396_Nx u396_Nf u396_Na u396_Nh u396_Nq u396_Nj q.2.2.2 u396_M1) [(0, .ref (ad 33)), (2, .int u396_x2), (3, .int u396_x3), (4, .int u396_x4), (5, .int u396_x5), (7, .int q.2.1), (8, .int q.2.2.1), (9, .int u396_x9)])) : o_At p l e rm_MT_number s m args below meth c Q m_cls D A 10 396 [] (m_cw ad ca ky ty u396_rt u396_Ni u396_Np u396_No u396_Nx u396_Nf u396_Na u396_Nh u396_Nq u396_Nj z.2.2 u396_M1) [(0, .ref (ad 33)), (2, .int u396_x2), (3, .int u396_x3), (4, .int u396_x4), (5, .int u396_x5), (7, .int z.1), (8, .int z.2.1), (9, .int u396_x9)] := by
  unfold m_MT_number_b396 at h
  intro H locs ls hP hS hl
  have C0 := C
  obtain ⟨hx, hb, -, -, -, hown, hts, hK, -, -⟩ := C0
  refine lv_aload_n hx hb d_MT_number_396 rfl (lv_at hl 0 rfl) ?_
  refine lv_aload_n hx hb d_MT_number_397 rfl (lv_at hl 0 rfl) ?_
  refine o_get (v := .int (MT_at z.2.2)) C in_MT hP 33 mw_33 rfl 15 (by decide) k_7_129 rfl rfl d_MT_number_398 ?_
  obtain ⟨q19, hq19, h⟩ := o_bd_some h
  refine o_V (st1 := [.int q19]) (w1 := (m_cw ad ca ky ty u396_rt u396_Ni u396_Np u396_No u396_Nx u396_Nf u396_Na u396_Nh u396_Nq u396_Nj z.2.2 u396_M1)) hE.1 C (e_MT_c_a hE hKy l (MT_at z.2.2) z.2.2 u396_Ni u396_Np u396_No u396_Nx u396_Nf u396_Na u396_Nh u396_Nq u396_Nj u396_M1 u396_rt hq19) hP (hDD _ _ _ _ _ _ _ _ _ _ _ _) hS hl.1 rfl mw_33 k_8_192 k_8_193 k_8_194 k_1_13 k_8_195 hv_MT_c rfl rfl ⟨(Nat.le_of_ble_eq_true rfl), (Nat.le_of_ble_eq_true rfl)⟩ rfl (Nat.le_of_ble_eq_true rfl) ⟨Nat.zero_le _, Nat.zero_le _⟩ rfl d_MT_number_401 (fun H locs hP hS => ?_)
  refine lv_bipush (v := (48:Int32)) hx hb d_MT_number_404 (by decide) ?_
  refine lv_bipush (v := (57:Int32)) hx hb d_MT_number_406 (by decide) ?_
  obtain ⟨q20, hq20, h⟩ := o_bd_some h
  refine o_SN (st1 := [.int q20]) (w1 := (m_cw ad ca ky ty u396_rt u396_Ni u396_Np u396_No u396_Nx u396_Nf u396_Na u396_Nh u396_Nq u396_Nj z.2.2 u396_M1)) hE.1 C (e_MM_in hE hKy l q19 (48:Int32) (57:Int32) u396_Ni u396_Np u396_No u396_Nx u396_Nf u396_Na u396_Nh u396_Nq u396_Nj z.2.2 u396_M1 u396_rt hq20) hP (hDD _ _ _ _ _ _ _ _ _ _ _ _) hS hl.1 (hE.2.1 _ _ _ C.2.2.2.2.2.2.2.2.2 _ nw_21) k_8_201 k_1_12 k_8_202 hs_MM_in rfl rfl ⟨(Nat.le_of_ble_eq_true rfl), (Nat.le_of_ble_eq_true rfl)⟩ rfl (Nat.le_of_ble_eq_true rfl) ⟨Nat.zero_le _, Nat.zero_le _⟩ rfl d_MT_number_408 (fun H locs hP hS => ?_)
  refine lv_if_eq (tgt := 456) hx hb d_MT_number_411 (by decide) (fun c33 => ?_) (fun c33 => ?_)
  · replace h := o_tt c33 h
    cases h
    exact h1 (Nat.succ_ne_zero 0) _ _ _ hP hS (lv_sub hl [0, 1, 2, 3, 4, 5, 6, 7] rfl)
  · replace h := o_ff c33 h
    refine lv_iload hx hb d_MT_number_414 (lv_at hl 5 rfl) ?_
    refine lv_ldc (v := (100000:Int32)) hx hb hown (hts _ k_9_13) d_MT_number_416 ?_
    refine lv_icmp_ge (tgt := 440) hx hb d_MT_number_418 (by decide) (fun c34 => ?_) (fun c34 => ?_)
    · replace h := o_tt c34 h
      exact f_MT_number_j440_a hE hKy C hDD n u396_x2 u396_x3 u396_x4 u396_x5 u396_x9 u396_Ni u396_Np u396_No u396_Nx u396_Nf u396_Na u396_Nh u396_Nq u396_Nj u396_M1 u396_rt z.1 z.2.1 z.2.2 h h0 h1 _ _ _ hP hS (lv_sub hl [0, 1, 2, 3, 4, 5, 6, 7] rfl)
    · replace h := o_ff c34 h
      refine lv_bipush (v := (10:Int32)) hx hb d_MT_number_421 (by decide) ?_
      refine lv_iload hx hb d_MT_number_423 (lv_at hl 5 rfl) ?_
      refine lv_imul hx hb d_MT_number_425 ?_
      refine lv_aload_n hx hb d_MT_number_426 rfl (lv_at hl 0 rfl) ?_
      refine lv_aload_n hx hb d_MT_number_427 rfl (lv_at hl 0 rfl) ?_
      refine o_get (v := .int (MT_at z.2.2)) C in_MT hP 33 mw_33 rfl 15 (by decide) k_7_129 rfl rfl d_MT_number_428 ?_
      obtain ⟨q21, hq21, h⟩ := o_bd_some h
      refine o_V (st1 := [.int q21, .int ((10:Int32) * z.1)]) (w1 := (m_cw ad ca ky ty u396_rt u396_Ni u396_Np u396_No u396_Nx u396_Nf u396_Na u396_Nh u396_Nq u396_Nj z.2.2 u396_M1)) hE.1 C (e_MT_c_a hE hKy l (MT_at z.2.2) z.2.2 u396_Ni u396_Np u396_No u396_Nx u396_Nf u396_Na u396_Nh u396_Nq u396_Nj u396_M1 u396_rt hq21) hP (hDD _ _ _ _ _ _ _ _ _ _ _ _) hS hl.1 rfl mw_33 k_8_192 k_8_193 k_8_194 k_1_13 k_8_195 hv_MT_c rfl rfl ⟨(Nat.le_of_ble_eq_true rfl), (Nat.le_of_ble_eq_true rfl)⟩ rfl (Nat.le_of_ble_eq_true rfl) ⟨Nat.zero_le _, Nat.zero_le _⟩ rfl d_MT_number_431 (fun H locs hP hS => ?_)
      refine lv_iadd hx hb d_MT_number_434 ?_
      refine lv_bipush (v := (48:Int32)) hx hb d_MT_number_435 (by decide) ?_
      refine lv_isub hx hb d_MT_number_437 ?_
      refine lv_topi (fun x7_438 ex7_438 => ?_)
      replace h := o_nm_at ex7_438 h
      refine lv_istore (lv' := [(7, .int x7_438), (0, .ref (ad 33)), (2, .int u396_x2), (3, .int u396_x3), (4, .int u396_x4), (5, .int u396_x5), (8, .int z.2.1), (9, .int u396_x9)]) hx hb d_MT_number_438 hl (by decide) rfl (fun ls hl => ?_)
      exact f_MT_number_j440_a hE hKy C hDD n u396_x2 u396_x3 u396_x4 u396_x5 u396_x9 u396_Ni u396_Np u396_No u396_Nx u396_Nf u396_Na u396_Nh u396_Nq u396_Nj u396_M1 u396_rt x7_438 z.2.1 z.2.2 h h0 h1 _ _ _ hP hS (lv_sub hl [1, 2, 3, 4, 5, 0, 6, 7] rfl)
set_option maxHeartbeats 4000000 in
set_option maxRecDepth 100000 in
theorem f_MT_number_j369_a {E : (Nat → Prop) → State → Heap → Prop} {p : Program} {l : Launch} {e : Env} {s : State} {m : MethodId} {args : Array Value} {below : List Frame} {meth : Method} {c : Code} {D : va_G} {ad kd sd vd xd : Nat → Nat} {ca : Nat → ClassId} {A : Nat → Prop} {ky ty : Nat → Option Nat} (hE : o_EK E kd sd vd xd) (hKy : m_KY ky ty sd) (C : o_Cx E p s m args meth c D m_cls (m_tys ca) "SchemaJudgeModel$Text" b_MT_number (some .boolean) 10 cc_MT_number A) (hDD : ∀ (rt : Nat) (Ni : SNI) (Np : SNP) (No : SNO) (Nx : SNX) (Nf : SNF) (Na : SNA) (Nh : SNH) (Nq : SNQ) (Nj : SNJ) (M0 : SMT) (M1 : SMT), va_D A (m_cw ad ca ky ty rt Ni Np No Nx Nf Na Nh Nq Nj M0 M1)) (n : Nat) (x2 : Int32) (x3 : Int32) (x4 : Int32) (x5 : Int32) (x7 : Int32) (x8 : Int32) (x9 : Int32) (a0 : SMT) (Ni : SNI) (Np : SNP) (No : SNO) (Nx : SNX) (Nf : SNF) (Na : SNA) (Nh : SNH) (Nq : SNQ) (Nj : SNJ) (M1 : SMT) (rt : Nat) {r : Int32 × SMT} (h : m_MT_number_j369 n x2 x3 x4 x5 x7 x8 x9 a0 = some r) : o_At p l e rm_MT_number s m args below meth c (MQ below (o_Qx D m_cls (some (.int r.1)) (m_cw ad ca ky ty rt Ni Np No Nx Nf Na Nh Nq Nj r.2 M1) A) args s 0 0 A) m_cls D A 10 369 [] (m_cw ad ca ky ty rt Ni Np No Nx Nf Na Nh Nq Nj a0 M1) [(0, .ref (ad 33)), (2, .int x2), (3, .int x3), (4, .int x4), (5, .int x5), (7, .int x7), (8, .int x8), (9, .int x9)] := by
  unfold m_MT_number_j369 at h
  intro H locs ls hP hS hl
  have C0 := C
  obtain ⟨hx, hb, -, -, -, hown, hts, hK, -, -⟩ := C0
  refine lv_aload_n hx hb d_MT_number_369 rfl (lv_at hl 0 rfl) ?_
  refine lv_aload_n hx hb d_MT_number_370 rfl (lv_at hl 0 rfl) ?_
  refine o_get (v := .int (MT_at a0)) C in_MT hP 33 mw_33 rfl 15 (by decide) k_7_129 rfl rfl d_MT_number_371 ?_
  obtain ⟨q17, hq17, h⟩ := o_bd_some h
  refine o_V (st1 := [.int q17]) (w1 := (m_cw ad ca ky ty rt Ni Np No Nx Nf Na Nh Nq Nj a0 M1)) hE.1 C (e_MT_c_a hE hKy l (MT_at a0) a0 Ni Np No Nx Nf Na Nh Nq Nj M1 rt hq17) hP (hDD _ _ _ _ _ _ _ _ _ _ _ _) hS hl.1 rfl mw_33 k_8_192 k_8_193 k_8_194 k_1_13 k_8_195 hv_MT_c rfl rfl ⟨(Nat.le_of_ble_eq_true rfl), (Nat.le_of_ble_eq_true rfl)⟩ rfl (Nat.le_of_ble_eq_true rfl) ⟨Nat.zero_le _, Nat.zero_le _⟩ rfl d_MT_number_374 (fun H locs hP hS => ?_)
  refine lv_bipush (v := (48:Int32)) hx hb d_MT_number_377 (by decide) ?_
  refine lv_bipush (v := (57:Int32)) hx hb d_MT_number_379 (by decide) ?_
  obtain ⟨q18, hq18, h⟩ := o_bd_some h
  refine o_SN (st1 := [.int q18]) (w1 := (m_cw ad ca ky ty rt Ni Np No Nx Nf Na Nh Nq Nj a0 M1)) hE.1 C (e_MM_in hE hKy l q17 (48:Int32) (57:Int32) Ni Np No Nx Nf Na Nh Nq Nj a0 M1 rt hq18) hP (hDD _ _ _ _ _ _ _ _ _ _ _ _) hS hl.1 (hE.2.1 _ _ _ C.2.2.2.2.2.2.2.2.2 _ nw_21) k_8_201 k_1_12 k_8_202 hs_MM_in rfl rfl ⟨(Nat.le_of_ble_eq_true rfl), (Nat.le_of_ble_eq_true rfl)⟩ rfl (Nat.le_of_ble_eq_true rfl) ⟨Nat.zero_le _, Nat.zero_le _⟩ rfl d_MT_number_381 (fun H locs hP hS => ?_)
  refine lv_if_ne (tgt := 396) hx hb d_MT_number_384 (by decide) (fun c32 => ?_) (fun c32 => ?_)
  · replace h := o_ff c32 h
    obtain ⟨q22, hq22, h⟩ := o_bd_some h
    refine o_sim2 (AH := fun zz => o_At p l e rm_MT_number s m args below meth c _ m_cls D A 10 396 [] (m_cw ad ca ky ty rt Ni Np No Nx Nf Na Nh Nq Nj zz.2.2 M1) [(0, .ref (ad 33)), (2, .int x2), (3, .int x3), (4, .int x4), (5, .int x5), (7, .int zz.1), (8, .int zz.2.1), (9, .int x9)]) (AX := fun qq => o_At p l e rm_MT_number s m args below meth c _ m_cls D A 10 456 [] (m_cw ad ca ky ty rt Ni Np No Nx Nf Na Nh Nq Nj qq.2.2.2 M1) [(0, .ref (ad 33)), (2, .int x2), (3, .int x3), (4, .int x4), (5, .int x5), (7, .int qq.2.1), (8, .int qq.2.2.1), (9, .int x9)]) (fun zz qq h h0 h1 => f_MT_number_b396_a hE hKy C hDD n x2 x3 x4 x5 x9 Ni Np No Nx Nf Na Nh Nq Nj M1 rt zz qq h h0 h1) n _ q22 hq22 ?_ _ _ _ hP hS (lv_sub hl [0, 1, 2, 3, 4, 5, 6, 7] rfl)
    intro H locs ls hP hS hl
    refine lv_iload hx hb d_MT_number_456 (lv_at hl 7 rfl) ?_
    refine lv_if_eq (tgt := 466) hx hb d_MT_number_458 (by decide) (fun c35 => ?_) (fun c35 => ?_)
    · replace h := o_tt c35 h
      exact f_MT_number_j466_a hE hKy C hDD n x2 x3 x4 x5 q22.2.1 q22.2.2.1 q22.2.2.2 Ni Np No Nx Nf Na Nh Nq Nj M1 rt h _ _ _ hP hS (lv_sub hl [0, 1, 2, 3, 4, 5, 6] rfl)
    · replace h := o_ff c35 h
      refine lv_iload hx hb d_MT_number_461 (lv_at hl 5 rfl) ?_
      refine lv_ineg hx hb d_MT_number_463 ?_
      refine lv_topi (fun x7_464 ex7_464 => ?_)
      replace h := o_nm_at ex7_464 h
      refine lv_istore (lv' := [(7, .int x7_464), (0, .ref (ad 33)), (2, .int x2), (3, .int x3), (4, .int x4), (5, .int x5), (8, .int q22.2.2.1), (9, .int x9)]) hx hb d_MT_number_464 hl (by decide) rfl (fun ls hl => ?_)
      exact f_MT_number_j466_a hE hKy C hDD n x2 x3 x4 x5 x7_464 q22.2.2.1 q22.2.2.2 Ni Np No Nx Nf Na Nh Nq Nj M1 rt h _ _ _ hP hS (lv_sub hl [1, 2, 3, 4, 5, 0, 6] rfl)
  · replace h := o_tt c32 h
    refine lv_aload_n hx hb d_MT_number_387 rfl (lv_at hl 0 rfl) ?_
    refine lv_aload_n hx hb d_MT_number_388 rfl (lv_at hl 0 rfl) ?_
    refine o_get (v := .int (MT_at a0)) C in_MT hP 33 mw_33 rfl 15 (by decide) k_7_129 rfl rfl d_MT_number_389 ?_
    obtain ⟨q23, hq23, h⟩ := o_bd_some h
    refine o_V (st1 := [.int q23.1]) (w1 := (m_cw ad ca ky ty rt Ni Np No Nx Nf Na Nh Nq Nj q23.2 M1)) hE.1 C (e_MT_bad_a hE hKy l (MT_at a0) a0 Ni Np No Nx Nf Na Nh Nq Nj M1 rt hq23) hP (hDD _ _ _ _ _ _ _ _ _ _ _ _) hS hl.1 rfl mw_33 k_8_203 k_8_204 k_8_205 k_1_13 k_8_206 hv_MT_bad rfl rfl ⟨(Nat.le_of_ble_eq_true rfl), (Nat.le_of_ble_eq_true rfl)⟩ rfl (Nat.le_of_ble_eq_true rfl) ⟨Nat.zero_le _, Nat.zero_le _⟩ rfl d_MT_number_392 (fun H locs hP hS => ?_)
    obtain ⟨g36, h⟩ := o_gd_some h
    cases h
    exact o_rz C (o_zb_nar g36) hP hS d_MT_number_395
set_option maxHeartbeats 4000000 in
set_option maxRecDepth 100000 in
theorem f_MT_number_j359_a {E : (Nat → Prop) → State → Heap → Prop} {p : Program} {l : Launch} {e : Env} {s : State} {m : MethodId} {args : Array Value} {below : List Frame} {meth : Method} {c : Code} {D : va_G} {ad kd sd vd xd : Nat → Nat} {ca : Nat → ClassId} {A : Nat → Prop} {ky ty : Nat → Option Nat} (hE : o_EK E kd sd vd xd) (hKy : m_KY ky ty sd) (C : o_Cx E p s m args meth c D m_cls (m_tys ca) "SchemaJudgeModel$Text" b_MT_number (some .boolean) 10 cc_MT_number A) (hDD : ∀ (rt : Nat) (Ni : SNI) (Np : SNP) (No : SNO) (Nx : SNX) (Nf : SNF) (Na : SNA) (Nh : SNH) (Nq : SNQ) (Nj : SNJ) (M0 : SMT) (M1 : SMT), va_D A (m_cw ad ca ky ty rt Ni Np No Nx Nf Na Nh Nq Nj M0 M1)) (n : Nat) (x2 : Int32) (x3 : Int32) (x4 : Int32) (x5 : Int32) (x7 : Int32) (x8 : Int32) (x9 : Int32) (a0 : SMT) (Ni : SNI) (Np : SNP) (No : SNO) (Nx : SNX) (Nf : SNF) (Na : SNA) (Nh : SNH) (Nq : SNQ) (Nj : SNJ) (M1 : SMT) (rt : Nat) {r : Int32 × SMT} (h : m_MT_number_j359 n x2 x3 x4 x5 x7 x8 x9 a0 = some r) : o_At p l e rm_MT_number s m args below meth c (MQ below (o_Qx D m_cls (some (.int r.1)) (m_cw ad ca ky ty rt Ni Np No Nx Nf Na Nh Nq Nj r.2 M1) A) args s 0 0 A) m_cls D A 10 359 [] (m_cw ad ca ky ty rt Ni Np No Nx Nf Na Nh Nq Nj a0 M1) [(0, .ref (ad 33)), (2, .int x2), (3, .int x3), (4, .int x4), (5, .int x5), (7, .int x7), (8, .int x8), (9, .int x9)] := by
  unfold m_MT_number_j359 at h
  intro H locs ls hP hS hl
  have C0 := C
  obtain ⟨hx, hb, -, -, -, hown, hts, hK, -, -⟩ := C0
  refine lv_aload_n hx hb d_MT_number_359 rfl (lv_at hl 0 rfl) ?_
  refine lv_dup hx hb d_MT_number_360 rfl ?_
  refine o_get (v := .int (MT_at a0)) C in_MT hP 33 mw_33 rfl 15 (by decide) k_7_129 rfl rfl d_MT_number_361 ?_
  refine lv_iconst (v := (1:Int32)) hx hb d_MT_number_364 (by decide) ?_
  refine lv_iadd hx hb d_MT_number_365 ?_
  refine o_put (v := .int ((MT_at a0) + (1:Int32))) (ty := .int) (w1 := (m_cw ad ca ky ty rt Ni Np No Nx Nf Na Nh Nq Nj (MT_mk (MT_text a0) (MT_kind a0) (MT_place a0) (MT_many a0) (MT_parent a0) (MT_power a0) (MT_first a0) (MT_next a0) (MT_name a0) (MT_from a0) (MT_characters a0) (MT_digits a0) (MT_minus a0) (MT_values a0) (MT_letters a0) ((MT_at a0) + (1:Int32)) (MT_wrong a0) (MT_used a0) (MT_written a0) (MT_left a0)) M1)) C in_MT t_MT t_MT_ok n_MT hP (hDD _ _ _ _ _ _ _ _ _ _ _ _) hS 33 mw_33 rfl 15 (by decide) k_7_129 rfl rfl (by decide +kernel) rfl rfl (Nat.le_of_ble_eq_true rfl) rfl d_MT_number_366 (fun H locs hP hS => ?_)
  exact f_MT_number_j369_a hE hKy C hDD n x2 x3 x4 x5 x7 x8 x9 (MT_mk (MT_text a0) (MT_kind a0) (MT_place a0) (MT_many a0) (MT_parent a0) (MT_power a0) (MT_first a0) (MT_next a0) (MT_name a0) (MT_from a0) (MT_characters a0) (MT_digits a0) (MT_minus a0) (MT_values a0) (MT_letters a0) ((MT_at a0) + (1:Int32)) (MT_wrong a0) (MT_used a0) (MT_written a0) (MT_left a0)) Ni Np No Nx Nf Na Nh Nq Nj M1 rt h _ _ _ hP hS (lv_sub hl [0, 1, 2, 3, 4, 5, 6, 7] rfl)
set_option maxHeartbeats 4000000 in
set_option maxRecDepth 100000 in
theorem f_MT_number_j331_a {E : (Nat → Prop) → State → Heap → Prop} {p : Program} {l : Launch} {e : Env} {s : State} {m : MethodId} {args : Array Value} {below : List Frame} {meth : Method} {c : Code} {D : va_G} {ad kd sd vd xd : Nat → Nat} {ca : Nat → ClassId} {A : Nat → Prop} {ky ty : Nat → Option Nat} (hE : o_EK E kd sd vd xd) (hKy : m_KY ky ty sd) (C : o_Cx E p s m args meth c D m_cls (m_tys ca) "SchemaJudgeModel$Text" b_MT_number (some .boolean) 10 cc_MT_number A) (hDD : ∀ (rt : Nat) (Ni : SNI) (Np : SNP) (No : SNO) (Nx : SNX) (Nf : SNF) (Na : SNA) (Nh : SNH) (Nq : SNQ) (Nj : SNJ) (M0 : SMT) (M1 : SMT), va_D A (m_cw ad ca ky ty rt Ni Np No Nx Nf Na Nh Nq Nj M0 M1)) (n : Nat) (x2 : Int32) (x3 : Int32) (x4 : Int32) (x5 : Int32) (x7 : Int32) (x8 : Int32) (y0 : Int32) (a0 : SMT) (Ni : SNI) (Np : SNP) (No : SNO) (Nx : SNX) (Nf : SNF) (Na : SNA) (Nh : SNH) (Nq : SNQ) (Nj : SNJ) (M1 : SMT) (rt : Nat) {r : Int32 × SMT} (h : m_MT_number_j331 n x2 x3 x4 x5 x7 x8 y0 a0 = some r) : o_At p l e rm_MT_number s m args below meth c (MQ below (o_Qx D m_cls (some (.int r.1)) (m_cw ad ca ky ty rt Ni Np No Nx Nf Na Nh Nq Nj r.2 M1) A) args s 0 0 A) m_cls D A 10 331 [.int y0] (m_cw ad ca ky ty rt Ni Np No Nx Nf Na Nh Nq Nj a0 M1) [(0, .ref (ad 33)), (2, .int x2), (3, .int x3), (4, .int x4), (5, .int x5), (7, .int x7), (8, .int x8)] := by
  unfold m_MT_number_j331 at h
  intro H locs ls hP hS hl
  have C0 := C
  obtain ⟨hx, hb, -, -, -, hown, hts, hK, -, -⟩ := C0
  refine lv_istore (lv' := [(9, .int y0), (0, .ref (ad 33)), (2, .int x2), (3, .int x3), (4, .int x4), (5, .int x5), (7, .int x7), (8, .int x8)]) hx hb d_MT_number_331 hl (by decide) rfl (fun ls hl => ?_)
  refine lv_aload_n hx hb d_MT_number_333 rfl (lv_at hl 1 rfl) ?_
  refine lv_aload_n hx hb d_MT_number_334 rfl (lv_at hl 1 rfl) ?_
  refine o_get (v := .int (MT_at a0)) C in_MT hP 33 mw_33 rfl 15 (by decide) k_7_129 rfl rfl d_MT_number_335 ?_
  obtain ⟨q16, hq16, h⟩ := o_bd_some h
  refine o_V (st1 := [.int q16]) (w1 := (m_cw ad ca ky ty rt Ni Np No Nx Nf Na Nh Nq Nj a0 M1)) hE.1 C (e_MT_c_a hE hKy l (MT_at a0) a0 Ni Np No Nx Nf Na Nh Nq Nj M1 rt hq16) hP (hDD _ _ _ _ _ _ _ _ _ _ _ _) hS hl.1 rfl mw_33 k_8_192 k_8_193 k_8_194 k_1_13 k_8_195 hv_MT_c rfl rfl ⟨(Nat.le_of_ble_eq_true rfl), (Nat.le_of_ble_eq_true rfl)⟩ rfl (Nat.le_of_ble_eq_true rfl) ⟨Nat.zero_le _, Nat.zero_le _⟩ rfl d_MT_number_338 (fun H locs hP hS => ?_)
  refine lv_bipush (v := (45:Int32)) hx hb d_MT_number_341 (by decide) ?_
  refine lv_icmp_eq (tgt := 359) hx hb d_MT_number_343 (by decide) (fun c31 => ?_) (fun c31 => ?_)
  · replace h := o_tt c31 h
    exact f_MT_number_j359_a hE hKy C hDD n x2 x3 x4 x5 x7 x8 y0 a0 Ni Np No Nx Nf Na Nh Nq Nj M1 rt h _ _ _ hP hS (lv_sub hl [1, 2, 3, 4, 5, 6, 7, 0] rfl)
  · replace h := o_ff c31 h
    refine lv_aload_n hx hb d_MT_number_346 rfl (lv_at hl 1 rfl) ?_
    refine lv_aload_n hx hb d_MT_number_347 rfl (lv_at hl 1 rfl) ?_
    refine o_get (v := .int (MT_at a0)) C in_MT hP 33 mw_33 rfl 15 (by decide) k_7_129 rfl rfl d_MT_number_348 ?_
    obtain ⟨q24, hq24, h⟩ := o_bd_some h
    refine o_V (st1 := [.int q24]) (w1 := (m_cw ad ca ky ty rt Ni Np No Nx Nf Na Nh Nq Nj a0 M1)) hE.1 C (e_MT_c_a hE hKy l (MT_at a0) a0 Ni Np No Nx Nf Na Nh Nq Nj M1 rt hq24) hP (hDD _ _ _ _ _ _ _ _ _ _ _ _) hS hl.1 rfl mw_33 k_8_192 k_8_193 k_8_194 k_1_13 k_8_195 hv_MT_c rfl rfl ⟨(Nat.le_of_ble_eq_true rfl), (Nat.le_of_ble_eq_true rfl)⟩ rfl (Nat.le_of_ble_eq_true rfl) ⟨Nat.zero_le _, Nat.zero_le _⟩ rfl d_MT_number_351 (fun H locs hP hS => ?_)
    refine lv_bipush (v := (43:Int32)) hx hb d_MT_number_354 (by decide) ?_
    refine lv_icmp_ne (tgt := 369) hx hb d_MT_number_356 (by decide) (fun c37 => ?_) (fun c37 => ?_)
    · replace h := o_ff c37 h
      exact f_MT_number_j369_a hE hKy C hDD n x2 x3 x4 x5 x7 x8 y0 a0 Ni Np No Nx Nf Na Nh Nq Nj M1 rt h _ _ _ hP hS (lv_sub hl [1, 2, 3, 4, 5, 6, 7, 0] rfl)
    · replace h := o_tt c37 h
      exact f_MT_number_j359_a hE hKy C hDD n x2 x3 x4 x5 x7 x8 y0 a0 Ni Np No Nx Nf Na Nh Nq Nj M1 rt h _ _ _ hP hS (lv_sub hl [1, 2, 3, 4, 5, 6, 7, 0] rfl)
set_option maxHeartbeats 4000000 in
set_option maxRecDepth 100000 in
theorem f_MT_number_j281_a {E : (Nat → Prop) → State → Heap → Prop} {p : Program} {l : Launch} {e : Env} {s : State} {m : MethodId} {args : Array Value} {below : List Frame} {meth : Method} {c : Code} {D : va_G} {ad kd sd vd xd : Nat → Nat} {ca : Nat → ClassId} {A : Nat → Prop} {ky ty : Nat → Option Nat} (hE : o_EK E kd sd vd xd) (hKy : m_KY ky ty sd) (C : o_Cx E p s m args meth c D m_cls (m_tys ca) "SchemaJudgeModel$Text" b_MT_number (some .boolean) 10 cc_MT_number A) (hDD : ∀ (rt : Nat) (Ni : SNI) (Np : SNP) (No : SNO) (Nx : SNX) (Nf : SNF) (Na : SNA) (Nh : SNH) (Nq : SNQ) (Nj : SNJ) (M0 : SMT) (M1 : SMT), va_D A (m_cw ad ca ky ty rt Ni Np No Nx Nf Na Nh Nq Nj M0 M1)) (n : Nat) (x2 : Int32) (x3 : Int32) (x4 : Int32) (x5 : Int32) (a0 : SMT) (Ni : SNI) (Np : SNP) (No : SNO) (Nx : SNX) (Nf : SNF) (Na : SNA) (Nh : SNH) (Nq : SNQ) (Nj : SNJ) (M1 : SMT) (rt : Nat) {r : Int32 × SMT} (h : m_MT_number_j281 n x2 x3 x4 x5 a0 = some r) : o_At p l e rm_MT_number s m args below meth c (MQ below (o_Qx D m_cls (some (.int r.1)) (m_cw ad ca ky ty rt Ni Np No Nx Nf Na Nh Nq Nj r.2 M1) A) args s 0 0 A) m_cls D A 10 281 [] (m_cw ad ca ky ty rt Ni Np No Nx Nf Na Nh Nq Nj a0 M1) [(0, .ref (ad 33)), (2, .int x2), (3, .int x3), (4, .int x4), (5, .int x5)] := by
  unfold m_MT_number_j281 at h
  intro H locs ls hP hS hl
  have C0 := C
  obtain ⟨hx, hb, -, -, -, hown, hts, hK, -, -⟩ := C0
  refine lv_iconst (v := (0:Int32)) hx hb d_MT_number_281 (by decide) ?_
  refine lv_istore (lv' := [(7, .int (0:Int32)), (0, .ref (ad 33)), (2, .int x2), (3, .int x3), (4, .int x4), (5, .int x5)]) hx hb d_MT_number_282 hl (by decide) rfl (fun ls hl => ?_)
  refine lv_iconst (v := (0:Int32)) hx hb d_MT_number_284 (by decide) ?_
  refine lv_istore (lv' := [(8, .int (0:Int32)), (7, .int (0:Int32)), (0, .ref (ad 33)), (2, .int x2), (3, .int x3), (4, .int x4), (5, .int x5)]) hx hb d_MT_number_285 hl (by decide) rfl (fun ls hl => ?_)
  refine lv_aload_n hx hb d_MT_number_287 rfl (lv_at hl 2 rfl) ?_
  refine lv_aload_n hx hb d_MT_number_288 rfl (lv_at hl 2 rfl) ?_
  refine o_get (v := .int (MT_at a0)) C in_MT hP 33 mw_33 rfl 15 (by decide) k_7_129 rfl rfl d_MT_number_289 ?_
  obtain ⟨q11, hq11, h⟩ := o_bd_some h
  refine o_V (st1 := [.int q11]) (w1 := (m_cw ad ca ky ty rt Ni Np No Nx Nf Na Nh Nq Nj a0 M1)) hE.1 C (e_MT_c_a hE hKy l (MT_at a0) a0 Ni Np No Nx Nf Na Nh Nq Nj M1 rt hq11) hP (hDD _ _ _ _ _ _ _ _ _ _ _ _) hS hl.1 rfl mw_33 k_8_192 k_8_193 k_8_194 k_1_13 k_8_195 hv_MT_c rfl rfl ⟨(Nat.le_of_ble_eq_true rfl), (Nat.le_of_ble_eq_true rfl)⟩ rfl (Nat.le_of_ble_eq_true rfl) ⟨Nat.zero_le _, Nat.zero_le _⟩ rfl d_MT_number_292 (fun H locs hP hS => ?_)
  refine lv_bipush (v := (32:Int32)) hx hb d_MT_number_295 (by decide) ?_
  refine lv_ior hx hb d_MT_number_297 ?_
  refine lv_bipush (v := (101:Int32)) hx hb d_MT_number_298 (by decide) ?_
  refine lv_icmp_ne (tgt := 466) hx hb d_MT_number_300 (by decide) (fun c12 => ?_) (fun c12 => ?_)
  · replace h := o_ff c12 h
    exact f_MT_number_j466_a hE hKy C hDD n x2 x3 x4 x5 (0:Int32) (0:Int32) a0 Ni Np No Nx Nf Na Nh Nq Nj M1 rt h _ _ _ hP hS (lv_sub hl [2, 3, 4, 5, 6, 1, 0] rfl)
  · replace h := o_tt c12 h
    refine lv_aload_n hx hb d_MT_number_303 rfl (lv_at hl 2 rfl) ?_
    refine lv_dup hx hb d_MT_number_304 rfl ?_
    refine o_get (v := .int (MT_at a0)) C in_MT hP 33 mw_33 rfl 15 (by decide) k_7_129 rfl rfl d_MT_number_305 ?_
    refine lv_iconst (v := (1:Int32)) hx hb d_MT_number_308 (by decide) ?_
    refine lv_iadd hx hb d_MT_number_309 ?_
    refine o_put (v := .int ((MT_at a0) + (1:Int32))) (ty := .int) (w1 := (m_cw ad ca ky ty rt Ni Np No Nx Nf Na Nh Nq Nj (MT_mk (MT_text a0) (MT_kind a0) (MT_place a0) (MT_many a0) (MT_parent a0) (MT_power a0) (MT_first a0) (MT_next a0) (MT_name a0) (MT_from a0) (MT_characters a0) (MT_digits a0) (MT_minus a0) (MT_values a0) (MT_letters a0) ((MT_at a0) + (1:Int32)) (MT_wrong a0) (MT_used a0) (MT_written a0) (MT_left a0)) M1)) C in_MT t_MT t_MT_ok n_MT hP (hDD _ _ _ _ _ _ _ _ _ _ _ _) hS 33 mw_33 rfl 15 (by decide) k_7_129 rfl rfl (by decide +kernel) rfl rfl (Nat.le_of_ble_eq_true rfl) rfl d_MT_number_310 (fun H locs hP hS => ?_)
    refine lv_aload_n hx hb d_MT_number_313 rfl (lv_at hl 2 rfl) ?_
    refine lv_aload_n hx hb d_MT_number_314 rfl (lv_at hl 2 rfl) ?_
    refine o_get (v := .int ((MT_at a0) + (1:Int32))) C in_MT hP 33 mw_33 rfl 15 (by decide) k_7_129 rfl rfl d_MT_number_315 ?_
    obtain ⟨q15, hq15, h⟩ := o_bd_some h
    refine o_V (st1 := [.int q15]) (w1 := (m_cw ad ca ky ty rt Ni Np No Nx Nf Na Nh Nq Nj (MT_mk (MT_text a0) (MT_kind a0) (MT_place a0) (MT_many a0) (MT_parent a0) (MT_power a0) (MT_first a0) (MT_next a0) (MT_name a0) (MT_from a0) (MT_characters a0) (MT_digits a0) (MT_minus a0) (MT_values a0) (MT_letters a0) ((MT_at a0) + (1:Int32)) (MT_wrong a0) (MT_used a0) (MT_written a0) (MT_left a0)) M1)) hE.1 C (e_MT_c_a hE hKy l ((MT_at a0) + (1:Int32)) (MT_mk (MT_text a0) (MT_kind a0) (MT_place a0) (MT_many a0) (MT_parent a0) (MT_power a0) (MT_first a0) (MT_next a0) (MT_name a0) (MT_from a0) (MT_characters a0) (MT_digits a0) (MT_minus a0) (MT_values a0) (MT_letters a0) ((MT_at a0) + (1:Int32)) (MT_wrong a0) (MT_used a0) (MT_written a0) (MT_left a0)) Ni Np No Nx Nf Na Nh Nq Nj M1 rt hq15) hP (hDD _ _ _ _ _ _ _ _ _ _ _ _) hS hl.1 rfl mw_33 k_8_192 k_8_193 k_8_194 k_1_13 k_8_195 hv_MT_c rfl rfl ⟨(Nat.le_of_ble_eq_true rfl), (Nat.le_of_ble_eq_true rfl)⟩ rfl (Nat.le_of_ble_eq_true rfl) ⟨Nat.zero_le _, Nat.zero_le _⟩ rfl d_MT_number_318 (fun H locs hP hS => ?_)
    refine lv_bipush (v := (45:Int32)) hx hb d_MT_number_321 (by decide) ?_
    refine lv_icmp_ne (tgt := 330) hx hb d_MT_number_323 (by decide) (fun c30 => ?_) (fun c30 => ?_)
    · replace h := o_ff c30 h
      refine lv_iconst (v := (0:Int32)) hx hb d_MT_number_330 (by decide) ?_
      exact f_MT_number_j331_a hE hKy C hDD n x2 x3 x4 x5 (0:Int32) (0:Int32) (0:Int32) (MT_mk (MT_text a0) (MT_kind a0) (MT_place a0) (MT_many a0) (MT_parent a0) (MT_power a0) (MT_first a0) (MT_next a0) (MT_name a0) (MT_from a0) (MT_characters a0) (MT_digits a0) (MT_minus a0) (MT_values a0) (MT_letters a0) ((MT_at a0) + (1:Int32)) (MT_wrong a0) (MT_used a0) (MT_written a0) (MT_left a0)) Ni Np No Nx Nf Na Nh Nq Nj M1 rt h _ _ _ hP hS (lv_sub hl [2, 3, 4, 5, 6, 1, 0] rfl)
    · replace h := o_tt c30 h
      refine lv_iconst (v := (1:Int32)) hx hb d_MT_number_326 (by decide) ?_
      refine lv_goto (tgt := 331) hx hb d_MT_number_327 (by decide) ?_
      exact f_MT_number_j331_a hE hKy C hDD n x2 x3 x4 x5 (0:Int32) (0:Int32) (1:Int32) (MT_mk (MT_text a0) (MT_kind a0) (MT_place a0) (MT_many a0) (MT_parent a0) (MT_power a0) (MT_first a0) (MT_next a0) (MT_name a0) (MT_from a0) (MT_characters a0) (MT_digits a0) (MT_minus a0) (MT_values a0) (MT_letters a0) ((MT_at a0) + (1:Int32)) (MT_wrong a0) (MT_used a0) (MT_written a0) (MT_left a0)) Ni Np No Nx Nf Na Nh Nq Nj M1 rt h _ _ _ hP hS (lv_sub hl [2, 3, 4, 5, 6, 1, 0] rfl)
set_option maxHeartbeats 4000000 in
set_option maxRecDepth 100000 in
theorem f_MT_number_b224_a {E : (Nat → Prop) → State → Heap → Prop} {p : Program} {l : Launch} {e : Env} {s : State} {m : MethodId} {args : Array Value} {below : List Frame} {meth : Method} {c : Code} {D : va_G} {ad kd sd vd xd : Nat → Nat} {ca : Nat → ClassId} {A : Nat → Prop} {ky ty : Nat → Option Nat} {Q : State → Prop} (hE : o_EK E kd sd vd xd) (hKy : m_KY ky ty sd) (C : o_Cx E p s m args meth c D m_cls (m_tys ca) "SchemaJudgeModel$Text" b_MT_number (some .boolean) 10 cc_MT_number A) (hDD : ∀ (rt : Nat) (Ni : SNI) (Np : SNP) (No : SNO) (Nx : SNX) (Nf : SNF) (Na : SNA) (Nh : SNH) (Nq : SNQ) (Nj : SNJ) (M0 : SMT) (M1 : SMT), va_D A (m_cw ad ca ky ty rt Ni Np No Nx Nf Na Nh Nq Nj M0 M1)) (n : Nat) (u224_x2 : Int32) (u224_x3 : Int32) (u224_Ni : SNI) (u224_Np : SNP) (u224_No : SNO) (u224_Nx : SNX) (u224_Nf : SNF) (u224_Na : SNA) (u224_Nh : SNH) (u224_Nq : SNQ) (u224_Nj : SNJ) (u224_M1 : SMT) (u224_rt : Nat) (z : Int32 × Int32 × SMT) (q : Nat × Int32 × Int32 × SMT) (h : m_MT_number_b224 n u224_x2 u224_x3 z = some q) (h0 : q.1 = 0 → o_At p l e rm_MT_number s m args below meth c Q m_cls D A 10 224 [] (m_cw ad ca ky ty u224_rt u224_Ni u224_Np u224_No u224_Nx u224_Nf u224_Na u224_Nh u224_Nq u224_Nj q.2.2.2 u224_M1) [(0, .ref (ad 33)), (2, .int u224_x2), (3, .int u224_x3), (4, .int q.2.1), (5, .int q.2.2.1)]) (h1 : q.1 ≠ 0 → (o_At p l e rm_MT_number s m args below meth c Q m_cls D A 10 281 [] (m_cw ad ca ky ty u224_rt u224_Ni u224_Np u224_No u224_Nx u224_Nf u224_Na u224_Nh u224_Nq u224_Nj q.2.2.2 u224_M1) [(0, .ref (ad 33)), (2, .int u224_x2), (3, .int u224_x3), (4, .int q.2.1), (5, .int q.2.2.1)])) : o_At p l e rm_MT_number s m args below meth c Q m_cls D A 10 224 [] (m_cw ad ca ky ty u224_rt u224_Ni u224_Np u224_No u224_Nx u224_Nf u224_Na u224_Nh u224_Nq u224_Nj z.2.2 u224_M1) [(0, .ref (ad 33)), (2, .int u224_x2), (3, .int u224_x3), (4, .int z.1), (5, .int z.2.1)] := by
  unfold m_MT_number_b224 at h
  intro H locs ls hP hS hl
  have C0 := C
  obtain ⟨hx, hb, -, -, -, hown, hts, hK, -, -⟩ := C0
  refine lv_aload_n hx hb d_MT_number_224 rfl (lv_at hl 0 rfl) ?_
  refine lv_aload_n hx hb d_MT_number_225 rfl (lv_at hl 0 rfl) ?_
  refine o_get (v := .int (MT_at z.2.2)) C in_MT hP 33 mw_33 rfl 15 (by decide) k_7_129 rfl rfl d_MT_number_226 ?_
  obtain ⟨q27, hq27, h⟩ := o_bd_some h
  refine o_V (st1 := [.int q27]) (w1 := (m_cw ad ca ky ty u224_rt u224_Ni u224_Np u224_No u224_Nx u224_Nf u224_Na u224_Nh u224_Nq u224_Nj z.2.2 u224_M1)) hE.1 C (e_MT_c_a hE hKy l (MT_at z.2.2) z.2.2 u224_Ni u224_Np u224_No u224_Nx u224_Nf u224_Na u224_Nh u224_Nq u224_Nj u224_M1 u224_rt hq27) hP (hDD _ _ _ _ _ _ _ _ _ _ _ _) hS hl.1 rfl mw_33 k_8_192 k_8_193 k_8_194 k_1_13 k_8_195 hv_MT_c rfl rfl ⟨(Nat.le_of_ble_eq_true rfl), (Nat.le_of_ble_eq_true rfl)⟩ rfl (Nat.le_of_ble_eq_true rfl) ⟨Nat.zero_le _, Nat.zero_le _⟩ rfl d_MT_number_229 (fun H locs hP hS => ?_)
  refine lv_bipush (v := (48:Int32)) hx hb d_MT_number_232 (by decide) ?_
  refine lv_bipush (v := (57:Int32)) hx hb d_MT_number_234 (by decide) ?_
  obtain ⟨q28, hq28, h⟩ := o_bd_some h
  refine o_SN (st1 := [.int q28]) (w1 := (m_cw ad ca ky ty u224_rt u224_Ni u224_Np u224_No u224_Nx u224_Nf u224_Na u224_Nh u224_Nq u224_Nj z.2.2 u224_M1)) hE.1 C (e_MM_in hE hKy l q27 (48:Int32) (57:Int32) u224_Ni u224_Np u224_No u224_Nx u224_Nf u224_Na u224_Nh u224_Nq u224_Nj z.2.2 u224_M1 u224_rt hq28) hP (hDD _ _ _ _ _ _ _ _ _ _ _ _) hS hl.1 (hE.2.1 _ _ _ C.2.2.2.2.2.2.2.2.2 _ nw_21) k_8_201 k_1_12 k_8_202 hs_MM_in rfl rfl ⟨(Nat.le_of_ble_eq_true rfl), (Nat.le_of_ble_eq_true rfl)⟩ rfl (Nat.le_of_ble_eq_true rfl) ⟨Nat.zero_le _, Nat.zero_le _⟩ rfl d_MT_number_236 (fun H locs hP hS => ?_)
  refine lv_if_eq (tgt := 281) hx hb d_MT_number_239 (by decide) (fun c39 => ?_) (fun c39 => ?_)
  · replace h := o_tt c39 h
    cases h
    exact h1 (Nat.succ_ne_zero 0) _ _ _ hP hS (lv_sub hl [0, 1, 2, 3, 4] rfl)
  · replace h := o_ff c39 h
    refine lv_aload_n hx hb d_MT_number_242 rfl (lv_at hl 0 rfl) ?_
    refine o_get (v := .ref (ad 45)) C in_MT hP 33 mw_33 rfl 11 (by decide) k_7_122 rfl rfl d_MT_number_243 ?_
    refine lv_aload_n hx hb d_MT_number_246 rfl (lv_at hl 0 rfl) ?_
    refine o_get (v := .int (MT_written z.2.2)) C in_MT hP 33 mw_33 rfl 18 (by decide) k_7_132 rfl rfl d_MT_number_247 ?_
    refine lv_iload hx hb d_MT_number_250 (lv_at hl 3 rfl) ?_
    obtain ⟨x4_252, ex4_252⟩ : ∃ y : Int32, y = z.1 + (1:Int32) := ⟨_, rfl⟩
    replace h := o_nm_at ex4_252 h
    refine lv_iinc (v := x4_252) (lv' := [(4, .int x4_252), (0, .ref (ad 33)), (2, .int u224_x2), (3, .int u224_x3), (5, .int z.2.1)]) hx hb d_MT_number_252 hl (k := 3) rfl (by rw [ex4_252]; rfl) (by decide) rfl (fun ls hl => ?_)
    refine lv_iadd hx hb d_MT_number_255 ?_
    refine lv_aload_n hx hb d_MT_number_256 rfl (lv_at hl 1 rfl) ?_
    refine lv_aload_n hx hb d_MT_number_257 rfl (lv_at hl 1 rfl) ?_
    refine lv_dup hx hb d_MT_number_258 rfl ?_
    refine o_get (v := .int (MT_at z.2.2)) C in_MT hP 33 mw_33 rfl 15 (by decide) k_7_129 rfl rfl d_MT_number_259 ?_
    refine lv_dup_x1 hx hb d_MT_number_262 rfl rfl ?_
    refine lv_iconst (v := (1:Int32)) hx hb d_MT_number_263 (by decide) ?_
    refine lv_iadd hx hb d_MT_number_264 ?_
    refine o_put (v := .int ((MT_at z.2.2) + (1:Int32))) (ty := .int) (w1 := (m_cw ad ca ky ty u224_rt u224_Ni u224_Np u224_No u224_Nx u224_Nf u224_Na u224_Nh u224_Nq u224_Nj (MT_mk (MT_text z.2.2) (MT_kind z.2.2) (MT_place z.2.2) (MT_many z.2.2) (MT_parent z.2.2) (MT_power z.2.2) (MT_first z.2.2) (MT_next z.2.2) (MT_name z.2.2) (MT_from z.2.2) (MT_characters z.2.2) (MT_digits z.2.2) (MT_minus z.2.2) (MT_values z.2.2) (MT_letters z.2.2) ((MT_at z.2.2) + (1:Int32)) (MT_wrong z.2.2) (MT_used z.2.2) (MT_written z.2.2) (MT_left z.2.2)) u224_M1)) C in_MT t_MT t_MT_ok n_MT hP (hDD _ _ _ _ _ _ _ _ _ _ _ _) hS 33 mw_33 rfl 15 (by decide) k_7_129 rfl rfl (by decide +kernel) rfl rfl (Nat.le_of_ble_eq_true rfl) rfl d_MT_number_265 (fun H locs hP hS => ?_)
    obtain ⟨q29, hq29, h⟩ := o_bd_some h
    refine o_V (st1 := [.int q29, .int ((MT_written z.2.2) + z.1), .ref (ad 45)]) (w1 := (m_cw ad ca ky ty u224_rt u224_Ni u224_Np u224_No u224_Nx u224_Nf u224_Na u224_Nh u224_Nq u224_Nj (MT_mk (MT_text z.2.2) (MT_kind z.2.2) (MT_place z.2.2) (MT_many z.2.2) (MT_parent z.2.2) (MT_power z.2.2) (MT_first z.2.2) (MT_next z.2.2) (MT_name z.2.2) (MT_from z.2.2) (MT_characters z.2.2) (MT_digits z.2.2) (MT_minus z.2.2) (MT_values z.2.2) (MT_letters z.2.2) ((MT_at z.2.2) + (1:Int32)) (MT_wrong z.2.2) (MT_used z.2.2) (MT_written z.2.2) (MT_left z.2.2)) u224_M1)) hE.1 C (e_MT_c_a hE hKy l (MT_at z.2.2) (MT_mk (MT_text z.2.2) (MT_kind z.2.2) (MT_place z.2.2) (MT_many z.2.2) (MT_parent z.2.2) (MT_power z.2.2) (MT_first z.2.2) (MT_next z.2.2) (MT_name z.2.2) (MT_from z.2.2) (MT_characters z.2.2) (MT_digits z.2.2) (MT_minus z.2.2) (MT_values z.2.2) (MT_letters z.2.2) ((MT_at z.2.2) + (1:Int32)) (MT_wrong z.2.2) (MT_used z.2.2) (MT_written z.2.2) (MT_left z.2.2)) u224_Ni u224_Np u224_No u224_Nx u224_Nf u224_Na u224_Nh u224_Nq u224_Nj u224_M1 u224_rt hq29) hP (hDD _ _ _ _ _ _ _ _ _ _ _ _) hS hl.1 rfl mw_33 k_8_192 k_8_193 k_8_194 k_1_13 k_8_195 hv_MT_c rfl rfl ⟨(Nat.le_of_ble_eq_true rfl), (Nat.le_of_ble_eq_true rfl)⟩ rfl (Nat.le_of_ble_eq_true rfl) ⟨Nat.zero_le _, Nat.zero_le _⟩ rfl d_MT_number_268 (fun H locs hP hS => ?_)
    refine lv_bipush (v := (48:Int32)) hx hb d_MT_number_271 (by decide) ?_
    refine lv_isub hx hb d_MT_number_273 ?_
    obtain ⟨g40, h⟩ := o_gd_some h
    refine o_iast (f := (MT_digits z.2.2)) (w1 := (m_cw ad ca ky ty u224_rt u224_Ni u224_Np u224_No u224_Nx u224_Nf u224_Na u224_Nh u224_Nq u224_Nj (MT_mk (MT_text z.2.2) (MT_kind z.2.2) (MT_place z.2.2) (MT_many z.2.2) (MT_parent z.2.2) (MT_power z.2.2) (MT_first z.2.2) (MT_next z.2.2) (MT_name z.2.2) (MT_from z.2.2) (MT_characters z.2.2) (upd (MT_digits z.2.2) ((MT_written z.2.2) + z.1).toNatClampNeg (q29 - (48:Int32))) (MT_minus z.2.2) (MT_values z.2.2) (MT_letters z.2.2) ((MT_at z.2.2) + (1:Int32)) (MT_wrong z.2.2) (MT_used z.2.2) (MT_written z.2.2) (MT_left z.2.2)) u224_M1)) C hP (hDD _ _ _ _ _ _ _ _ _ _ _ _) hS 45 43 mw_45 rfl g40 rfl d_MT_number_274 (fun H locs hP hS => ?_)
    obtain ⟨x5_275, ex5_275⟩ : ∃ y : Int32, y = z.2.1 + (1:Int32) := ⟨_, rfl⟩
    replace h := o_nm_at ex5_275 h
    refine lv_iinc (v := x5_275) (lv' := [(5, .int x5_275), (4, .int x4_252), (0, .ref (ad 33)), (2, .int u224_x2), (3, .int u224_x3)]) hx hb d_MT_number_275 hl (k := 4) rfl (by rw [ex5_275]; rfl) (by decide) rfl (fun ls hl => ?_)
    refine lv_goto (tgt := 224) hx hb d_MT_number_278 (by decide) ?_
    cases h
    exact h0 rfl _ _ _ hP hS (lv_sub hl [2, 3, 4, 1, 0] rfl)
set_option maxHeartbeats 4000000 in
set_option maxRecDepth 100000 in
theorem f_MT_number_j174_a {E : (Nat → Prop) → State → Heap → Prop} {p : Program} {l : Launch} {e : Env} {s : State} {m : MethodId} {args : Array Value} {below : List Frame} {meth : Method} {c : Code} {D : va_G} {ad kd sd vd xd : Nat → Nat} {ca : Nat → ClassId} {A : Nat → Prop} {ky ty : Nat → Option Nat} (hE : o_EK E kd sd vd xd) (hKy : m_KY ky ty sd) (C : o_Cx E p s m args meth c D m_cls (m_tys ca) "SchemaJudgeModel$Text" b_MT_number (some .boolean) 10 cc_MT_number A) (hDD : ∀ (rt : Nat) (Ni : SNI) (Np : SNP) (No : SNO) (Nx : SNX) (Nf : SNF) (Na : SNA) (Nh : SNH) (Nq : SNQ) (Nj : SNJ) (M0 : SMT) (M1 : SMT), va_D A (m_cw ad ca ky ty rt Ni Np No Nx Nf Na Nh Nq Nj M0 M1)) (n : Nat) (x2 : Int32) (x3 : Int32) (x4 : Int32) (x5 : Int32) (a0 : SMT) (Ni : SNI) (Np : SNP) (No : SNO) (Nx : SNX) (Nf : SNF) (Na : SNA) (Nh : SNH) (Nq : SNQ) (Nj : SNJ) (M1 : SMT) (rt : Nat) {r : Int32 × SMT} (h : m_MT_number_j174 n x2 x3 x4 x5 a0 = some r) : o_At p l e rm_MT_number s m args below meth c (MQ below (o_Qx D m_cls (some (.int r.1)) (m_cw ad ca ky ty rt Ni Np No Nx Nf Na Nh Nq Nj r.2 M1) A) args s 0 0 A) m_cls D A 10 174 [] (m_cw ad ca ky ty rt Ni Np No Nx Nf Na Nh Nq Nj a0 M1) [(0, .ref (ad 33)), (2, .int x2), (3, .int x3), (4, .int x4), (5, .int x5)] := by
  unfold m_MT_number_j174 at h
  intro H locs ls hP hS hl
  have C0 := C
  obtain ⟨hx, hb, -, -, -, hown, hts, hK, -, -⟩ := C0
  refine lv_aload_n hx hb d_MT_number_174 rfl (lv_at hl 0 rfl) ?_
  refine lv_aload_n hx hb d_MT_number_175 rfl (lv_at hl 0 rfl) ?_
  refine o_get (v := .int (MT_at a0)) C in_MT hP 33 mw_33 rfl 15 (by decide) k_7_129 rfl rfl d_MT_number_176 ?_
  obtain ⟨q10, hq10, h⟩ := o_bd_some h
  refine o_V (st1 := [.int q10]) (w1 := (m_cw ad ca ky ty rt Ni Np No Nx Nf Na Nh Nq Nj a0 M1)) hE.1 C (e_MT_c_a hE hKy l (MT_at a0) a0 Ni Np No Nx Nf Na Nh Nq Nj M1 rt hq10) hP (hDD _ _ _ _ _ _ _ _ _ _ _ _) hS hl.1 rfl mw_33 k_8_192 k_8_193 k_8_194 k_1_13 k_8_195 hv_MT_c rfl rfl ⟨(Nat.le_of_ble_eq_true rfl), (Nat.le_of_ble_eq_true rfl)⟩ rfl (Nat.le_of_ble_eq_true rfl) ⟨Nat.zero_le _, Nat.zero_le _⟩ rfl d_MT_number_179 (fun H locs hP hS => ?_)
  refine lv_bipush (v := (46:Int32)) hx hb d_MT_number_182 (by decide) ?_
  refine lv_icmp_ne (tgt := 281) hx hb d_MT_number_184 (by decide) (fun c11 => ?_) (fun c11 => ?_)
  · replace h := o_ff c11 h
    exact f_MT_number_j281_a hE hKy C hDD n x2 x3 x4 x5 a0 Ni Np No Nx Nf Na Nh Nq Nj M1 rt h _ _ _ hP hS (lv_sub hl [0, 1, 2, 3, 4] rfl)
  · replace h := o_tt c11 h
    refine lv_aload_n hx hb d_MT_number_187 rfl (lv_at hl 0 rfl) ?_
    refine lv_dup hx hb d_MT_number_188 rfl ?_
    refine o_get (v := .int (MT_at a0)) C in_MT hP 33 mw_33 rfl 15 (by decide) k_7_129 rfl rfl d_MT_number_189 ?_
    refine lv_iconst (v := (1:Int32)) hx hb d_MT_number_192 (by decide) ?_
    refine lv_iadd hx hb d_MT_number_193 ?_
    refine o_put (v := .int ((MT_at a0) + (1:Int32))) (ty := .int) (w1 := (m_cw ad ca ky ty rt Ni Np No Nx Nf Na Nh Nq Nj (MT_mk (MT_text a0) (MT_kind a0) (MT_place a0) (MT_many a0) (MT_parent a0) (MT_power a0) (MT_first a0) (MT_next a0) (MT_name a0) (MT_from a0) (MT_characters a0) (MT_digits a0) (MT_minus a0) (MT_values a0) (MT_letters a0) ((MT_at a0) + (1:Int32)) (MT_wrong a0) (MT_used a0) (MT_written a0) (MT_left a0)) M1)) C in_MT t_MT t_MT_ok n_MT hP (hDD _ _ _ _ _ _ _ _ _ _ _ _) hS 33 mw_33 rfl 15 (by decide) k_7_129 rfl rfl (by decide +kernel) rfl rfl (Nat.le_of_ble_eq_true rfl) rfl d_MT_number_194 (fun H locs hP hS => ?_)
    refine lv_aload_n hx hb d_MT_number_197 rfl (lv_at hl 0 rfl) ?_
    refine lv_aload_n hx hb d_MT_number_198 rfl (lv_at hl 0 rfl) ?_
    refine o_get (v := .int ((MT_at a0) + (1:Int32))) C in_MT hP 33 mw_33 rfl 15 (by decide) k_7_129 rfl rfl d_MT_number_199 ?_
    obtain ⟨q25, hq25, h⟩ := o_bd_some h
    refine o_V (st1 := [.int q25]) (w1 := (m_cw ad ca ky ty rt Ni Np No Nx Nf Na Nh Nq Nj (MT_mk (MT_text a0) (MT_kind a0) (MT_place a0) (MT_many a0) (MT_parent a0) (MT_power a0) (MT_first a0) (MT_next a0) (MT_name a0) (MT_from a0) (MT_characters a0) (MT_digits a0) (MT_minus a0) (MT_values a0) (MT_letters a0) ((MT_at a0) + (1:Int32)) (MT_wrong a0) (MT_used a0) (MT_written a0) (MT_left a0)) M1)) hE.1 C (e_MT_c_a hE hKy l ((MT_at a0) + (1:Int32)) (MT_mk (MT_text a0) (MT_kind a0) (MT_place a0) (MT_many a0) (MT_parent a0) (MT_power a0) (MT_first a0) (MT_next a0) (MT_name a0) (MT_from a0) (MT_characters a0) (MT_digits a0) (MT_minus a0) (MT_values a0) (MT_letters a0) ((MT_at a0) + (1:Int32)) (MT_wrong a0) (MT_used a0) (MT_written a0) (MT_left a0)) Ni Np No Nx Nf Na Nh Nq Nj M1 rt hq25) hP (hDD _ _ _ _ _ _ _ _ _ _ _ _) hS hl.1 rfl mw_33 k_8_192 k_8_193 k_8_194 k_1_13 k_8_195 hv_MT_c rfl rfl ⟨(Nat.le_of_ble_eq_true rfl), (Nat.le_of_ble_eq_true rfl)⟩ rfl (Nat.le_of_ble_eq_true rfl) ⟨Nat.zero_le _, Nat.zero_le _⟩ rfl d_MT_number_202 (fun H locs hP hS => ?_)
    refine lv_bipush (v := (48:Int32)) hx hb d_MT_number_205 (by decide) ?_
    refine lv_bipush (v := (57:Int32)) hx hb d_MT_number_207 (by decide) ?_
    obtain ⟨q26, hq26, h⟩ := o_bd_some h
    refine o_SN (st1 := [.int q26]) (w1 := (m_cw ad ca ky ty rt Ni Np No Nx Nf Na Nh Nq Nj (MT_mk (MT_text a0) (MT_kind a0) (MT_place a0) (MT_many a0) (MT_parent a0) (MT_power a0) (MT_first a0) (MT_next a0) (MT_name a0) (MT_from a0) (MT_characters a0) (MT_digits a0) (MT_minus a0) (MT_values a0) (MT_letters a0) ((MT_at a0) + (1:Int32)) (MT_wrong a0) (MT_used a0) (MT_written a0) (MT_left a0)) M1)) hE.1 C (e_MM_in hE hKy l q25 (48:Int32) (57:Int32) Ni Np No Nx Nf Na Nh Nq Nj (MT_mk (MT_text a0) (MT_kind a0) (MT_place a0) (MT_many a0) (MT_parent a0) (MT_power a0) (MT_first a0) (MT_next a0) (MT_name a0) (MT_from a0) (MT_characters a0) (MT_digits a0) (MT_minus a0) (MT_values a0) (MT_letters a0) ((MT_at a0) + (1:Int32)) (MT_wrong a0) (MT_used a0) (MT_written a0) (MT_left a0)) M1 rt hq26) hP (hDD _ _ _ _ _ _ _ _ _ _ _ _) hS hl.1 (hE.2.1 _ _ _ C.2.2.2.2.2.2.2.2.2 _ nw_21) k_8_201 k_1_12 k_8_202 hs_MM_in rfl rfl ⟨(Nat.le_of_ble_eq_true rfl), (Nat.le_of_ble_eq_true rfl)⟩ rfl (Nat.le_of_ble_eq_true rfl) ⟨Nat.zero_le _, Nat.zero_le _⟩ rfl d_MT_number_209 (fun H locs hP hS => ?_)
    refine lv_if_ne (tgt := 224) hx hb d_MT_number_212 (by decide) (fun c38 => ?_) (fun c38 => ?_)
    · replace h := o_ff c38 h
      obtain ⟨q30, hq30, h⟩ := o_bd_some h
      refine o_sim2 (AH := fun zz => o_At p l e rm_MT_number s m args below meth c _ m_cls D A 10 224 [] (m_cw ad ca ky ty rt Ni Np No Nx Nf Na Nh Nq Nj zz.2.2 M1) [(0, .ref (ad 33)), (2, .int x2), (3, .int x3), (4, .int zz.1), (5, .int zz.2.1)]) (AX := fun qq => o_At p l e rm_MT_number s m args below meth c _ m_cls D A 10 281 [] (m_cw ad ca ky ty rt Ni Np No Nx Nf Na Nh Nq Nj qq.2.2.2 M1) [(0, .ref (ad 33)), (2, .int x2), (3, .int x3), (4, .int qq.2.1), (5, .int qq.2.2.1)]) (fun zz qq h h0 h1 => f_MT_number_b224_a hE hKy C hDD n x2 x3 Ni Np No Nx Nf Na Nh Nq Nj M1 rt zz qq h h0 h1) n _ q30 hq30 ?_ _ _ _ hP hS (lv_sub hl [0, 1, 2, 3, 4] rfl)
      intro H locs ls hP hS hl
      exact f_MT_number_j281_a hE hKy C hDD n x2 x3 q30.2.1 q30.2.2.1 q30.2.2.2 Ni Np No Nx Nf Na Nh Nq Nj M1 rt h _ _ _ hP hS (lv_sub hl [0, 1, 2, 3, 4] rfl)
    · replace h := o_tt c38 h
      refine lv_aload_n hx hb d_MT_number_215 rfl (lv_at hl 0 rfl) ?_
      refine lv_aload_n hx hb d_MT_number_216 rfl (lv_at hl 0 rfl) ?_
      refine o_get (v := .int ((MT_at a0) + (1:Int32))) C in_MT hP 33 mw_33 rfl 15 (by decide) k_7_129 rfl rfl d_MT_number_217 ?_
      obtain ⟨q31, hq31, h⟩ := o_bd_some h
      refine o_V (st1 := [.int q31.1]) (w1 := (m_cw ad ca ky ty rt Ni Np No Nx Nf Na Nh Nq Nj q31.2 M1)) hE.1 C (e_MT_bad_a hE hKy l ((MT_at a0) + (1:Int32)) (MT_mk (MT_text a0) (MT_kind a0) (MT_place a0) (MT_many a0) (MT_parent a0) (MT_power a0) (MT_first a0) (MT_next a0) (MT_name a0) (MT_from a0) (MT_characters a0) (MT_digits a0) (MT_minus a0) (MT_values a0) (MT_letters a0) ((MT_at a0) + (1:Int32)) (MT_wrong a0) (MT_used a0) (MT_written a0) (MT_left a0)) Ni Np No Nx Nf Na Nh Nq Nj M1 rt hq31) hP (hDD _ _ _ _ _ _ _ _ _ _ _ _) hS hl.1 rfl mw_33 k_8_203 k_8_204 k_8_205 k_1_13 k_8_206 hv_MT_bad rfl rfl ⟨(Nat.le_of_ble_eq_true rfl), (Nat.le_of_ble_eq_true rfl)⟩ rfl (Nat.le_of_ble_eq_true rfl) ⟨Nat.zero_le _, Nat.zero_le _⟩ rfl d_MT_number_220 (fun H locs hP hS => ?_)
      obtain ⟨g41, h⟩ := o_gd_some h
      cases h
      exact o_rz C (o_zb_nar g41) hP hS d_MT_number_223
set_option maxHeartbeats 4000000 in
set_option maxRecDepth 100000 in
theorem f_MT_number_j71_a {E : (Nat → Prop) → State → Heap → Prop} {p : Program} {l : Launch} {e : Env} {s : State} {m : MethodId} {args : Array Value} {below : List Frame} {meth : Method} {c : Code} {D : va_G} {ad kd sd vd xd : Nat → Nat} {ca : Nat → ClassId} {A : Nat → Prop} {ky ty : Nat → Option Nat} (hE : o_EK E kd sd vd xd) (hKy : m_KY ky ty sd) (C : o_Cx E p s m args meth c D m_cls (m_tys ca) "SchemaJudgeModel$Text" b_MT_number (some .boolean) 10 cc_MT_number A) (hDD : ∀ (rt : Nat) (Ni : SNI) (Np : SNP) (No : SNO) (Nx : SNX) (Nf : SNF) (Na : SNA) (Nh : SNH) (Nq : SNQ) (Nj : SNJ) (M0 : SMT) (M1 : SMT), va_D A (m_cw ad ca ky ty rt Ni Np No Nx Nf Na Nh Nq Nj M0 M1)) (n : Nat) (x2 : Int32) (x3 : Int32) (x4 : Int32) (x5 : Int32) (a0 : SMT) (Ni : SNI) (Np : SNP) (No : SNO) (Nx : SNX) (Nf : SNF) (Na : SNA) (Nh : SNH) (Nq : SNQ) (Nj : SNJ) (M1 : SMT) (rt : Nat) {r : Int32 × SMT} (h : m_MT_number_j71 n x2 x3 x4 x5 a0 = some r) : o_At p l e rm_MT_number s m args below meth c (MQ below (o_Qx D m_cls (some (.int r.1)) (m_cw ad ca ky ty rt Ni Np No Nx Nf Na Nh Nq Nj r.2 M1) A) args s 0 0 A) m_cls D A 10 71 [] (m_cw ad ca ky ty rt Ni Np No Nx Nf Na Nh Nq Nj a0 M1) [(0, .ref (ad 33)), (2, .int x2), (3, .int x3), (4, .int x4), (5, .int x5)] := by
  unfold m_MT_number_j71 at h
  intro H locs ls hP hS hl
  have C0 := C
  obtain ⟨hx, hb, -, -, -, hown, hts, hK, -, -⟩ := C0
  refine lv_aload_n hx hb d_MT_number_71 rfl (lv_at hl 0 rfl) ?_
  refine lv_aload_n hx hb d_MT_number_72 rfl (lv_at hl 0 rfl) ?_
  refine o_get (v := .int (MT_at a0)) C in_MT hP 33 mw_33 rfl 15 (by decide) k_7_129 rfl rfl d_MT_number_73 ?_
  obtain ⟨q3, hq3, h⟩ := o_bd_some h
  refine o_V (st1 := [.int q3]) (w1 := (m_cw ad ca ky ty rt Ni Np No Nx Nf Na Nh Nq Nj a0 M1)) hE.1 C (e_MT_c_a hE hKy l (MT_at a0) a0 Ni Np No Nx Nf Na Nh Nq Nj M1 rt hq3) hP (hDD _ _ _ _ _ _ _ _ _ _ _ _) hS hl.1 rfl mw_33 k_8_192 k_8_193 k_8_194 k_1_13 k_8_195 hv_MT_c rfl rfl ⟨(Nat.le_of_ble_eq_true rfl), (Nat.le_of_ble_eq_true rfl)⟩ rfl (Nat.le_of_ble_eq_true rfl) ⟨Nat.zero_le _, Nat.zero_le _⟩ rfl d_MT_number_76 (fun H locs hP hS => ?_)
  refine lv_bipush (v := (48:Int32)) hx hb d_MT_number_79 (by decide) ?_
  refine lv_bipush (v := (57:Int32)) hx hb d_MT_number_81 (by decide) ?_
  obtain ⟨q4, hq4, h⟩ := o_bd_some h
  refine o_SN (st1 := [.int q4]) (w1 := (m_cw ad ca ky ty rt Ni Np No Nx Nf Na Nh Nq Nj a0 M1)) hE.1 C (e_MM_in hE hKy l q3 (48:Int32) (57:Int32) Ni Np No Nx Nf Na Nh Nq Nj a0 M1 rt hq4) hP (hDD _ _ _ _ _ _ _ _ _ _ _ _) hS hl.1 (hE.2.1 _ _ _ C.2.2.2.2.2.2.2.2.2 _ nw_21) k_8_201 k_1_12 k_8_202 hs_MM_in rfl rfl ⟨(Nat.le_of_ble_eq_true rfl), (Nat.le_of_ble_eq_true rfl)⟩ rfl (Nat.le_of_ble_eq_true rfl) ⟨Nat.zero_le _, Nat.zero_le _⟩ rfl d_MT_number_83 (fun H locs hP hS => ?_)
  refine lv_if_ne (tgt := 98) hx hb d_MT_number_86 (by decide) (fun c6 => ?_) (fun c6 => ?_)
  · replace h := o_ff c6 h
    refine lv_aload_n hx hb d_MT_number_98 rfl (lv_at hl 0 rfl) ?_
    refine lv_aload_n hx hb d_MT_number_99 rfl (lv_at hl 0 rfl) ?_
    refine o_get (v := .int (MT_at a0)) C in_MT hP 33 mw_33 rfl 15 (by decide) k_7_129 rfl rfl d_MT_number_100 ?_
    obtain ⟨q5, hq5, h⟩ := o_bd_some h
    refine o_V (st1 := [.int q5]) (w1 := (m_cw ad ca ky ty rt Ni Np No Nx Nf Na Nh Nq Nj a0 M1)) hE.1 C (e_MT_c_a hE hKy l (MT_at a0) a0 Ni Np No Nx Nf Na Nh Nq Nj M1 rt hq5) hP (hDD _ _ _ _ _ _ _ _ _ _ _ _) hS hl.1 rfl mw_33 k_8_192 k_8_193 k_8_194 k_1_13 k_8_195 hv_MT_c rfl rfl ⟨(Nat.le_of_ble_eq_true rfl), (Nat.le_of_ble_eq_true rfl)⟩ rfl (Nat.le_of_ble_eq_true rfl) ⟨Nat.zero_le _, Nat.zero_le _⟩ rfl d_MT_number_103 (fun H locs hP hS => ?_)
    refine lv_bipush (v := (48:Int32)) hx hb d_MT_number_106 (by decide) ?_
    refine lv_icmp_ne (tgt := 115) hx hb d_MT_number_108 (by decide) (fun c7 => ?_) (fun c7 => ?_)
    · replace h := o_ff c7 h
      refine lv_iconst (v := (0:Int32)) hx hb d_MT_number_115 (by decide) ?_
      refine lv_istore (lv' := [(6, .int (0:Int32)), (0, .ref (ad 33)), (2, .int x2), (3, .int x3), (4, .int x4), (5, .int x5)]) hx hb d_MT_number_116 hl (by decide) rfl (fun ls hl => ?_)
      obtain ⟨q9, hq9, h⟩ := o_bd_some h
      refine o_sim2 (AH := fun zz => o_At p l e rm_MT_number s m args below meth c _ m_cls D A 10 118 [] (m_cw ad ca ky ty rt Ni Np No Nx Nf Na Nh Nq Nj zz.2 M1) [(0, .ref (ad 33)), (2, .int x2), (3, .int x3), (4, .int zz.1), (5, .int x5), (6, .int (0:Int32))]) (AX := fun qq => o_At p l e rm_MT_number s m args below meth c _ m_cls D A 10 174 [] (m_cw ad ca ky ty rt Ni Np No Nx Nf Na Nh Nq Nj qq.2.2 M1) [(0, .ref (ad 33)), (2, .int x2), (3, .int x3), (4, .int qq.2.1), (5, .int x5)]) (fun zz qq h h0 h1 => f_MT_number_b118_a hE hKy C hDD n x2 x3 x5 (0:Int32) Ni Np No Nx Nf Na Nh Nq Nj M1 rt zz qq h h0 h1) n _ q9 hq9 ?_ _ _ _ hP hS (lv_sub hl [1, 2, 3, 4, 5, 0] rfl)
      intro H locs ls hP hS hl
      exact f_MT_number_j174_a hE hKy C hDD n x2 x3 q9.2.1 x5 q9.2.2 Ni Np No Nx Nf Na Nh Nq Nj M1 rt h _ _ _ hP hS (lv_sub hl [0, 1, 2, 3, 4] rfl)
    · replace h := o_tt c7 h
      refine lv_iconst (v := (1:Int32)) hx hb d_MT_number_111 (by decide) ?_
      refine lv_goto (tgt := 116) hx hb d_MT_number_112 (by decide) ?_
      refine lv_istore (lv' := [(6, .int (1:Int32)), (0, .ref (ad 33)), (2, .int x2), (3, .int x3), (4, .int x4), (5, .int x5)]) hx hb d_MT_number_116 hl (by decide) rfl (fun ls hl => ?_)
      obtain ⟨q32, hq32, h⟩ := o_bd_some h
      refine o_sim2 (AH := fun zz => o_At p l e rm_MT_number s m args below meth c _ m_cls D A 10 118 [] (m_cw ad ca ky ty rt Ni Np No Nx Nf Na Nh Nq Nj zz.2 M1) [(0, .ref (ad 33)), (2, .int x2), (3, .int x3), (4, .int zz.1), (5, .int x5), (6, .int (1:Int32))]) (AX := fun qq => o_At p l e rm_MT_number s m args below meth c _ m_cls D A 10 174 [] (m_cw ad ca ky ty rt Ni Np No Nx Nf Na Nh Nq Nj qq.2.2 M1) [(0, .ref (ad 33)), (2, .int x2), (3, .int x3), (4, .int qq.2.1), (5, .int x5)]) (fun zz qq h h0 h1 => f_MT_number_b118_a hE hKy C hDD n x2 x3 x5 (1:Int32) Ni Np No Nx Nf Na Nh Nq Nj M1 rt zz qq h h0 h1) n _ q32 hq32 ?_ _ _ _ hP hS (lv_sub hl [1, 2, 3, 4, 5, 0] rfl)
      intro H locs ls hP hS hl
      exact f_MT_number_j174_a hE hKy C hDD n x2 x3 q32.2.1 x5 q32.2.2 Ni Np No Nx Nf Na Nh Nq Nj M1 rt h _ _ _ hP hS (lv_sub hl [0, 1, 2, 3, 4] rfl)
  · replace h := o_tt c6 h
    refine lv_aload_n hx hb d_MT_number_89 rfl (lv_at hl 0 rfl) ?_
    refine lv_aload_n hx hb d_MT_number_90 rfl (lv_at hl 0 rfl) ?_
    refine o_get (v := .int (MT_at a0)) C in_MT hP 33 mw_33 rfl 15 (by decide) k_7_129 rfl rfl d_MT_number_91 ?_
    obtain ⟨q33, hq33, h⟩ := o_bd_some h
    refine o_V (st1 := [.int q33.1]) (w1 := (m_cw ad ca ky ty rt Ni Np No Nx Nf Na Nh Nq Nj q33.2 M1)) hE.1 C (e_MT_bad_a hE hKy l (MT_at a0) a0 Ni Np No Nx Nf Na Nh Nq Nj M1 rt hq33) hP (hDD _ _ _ _ _ _ _ _ _ _ _ _) hS hl.1 rfl mw_33 k_8_203 k_8_204 k_8_205 k_1_13 k_8_206 hv_MT_bad rfl rfl ⟨(Nat.le_of_ble_eq_true rfl), (Nat.le_of_ble_eq_true rfl)⟩ rfl (Nat.le_of_ble_eq_true rfl) ⟨Nat.zero_le _, Nat.zero_le _⟩ rfl d_MT_number_94 (fun H locs hP hS => ?_)
    obtain ⟨g42, h⟩ := o_gd_some h
    cases h
    exact o_rz C (o_zb_nar g42) hP hS d_MT_number_97
set_option maxHeartbeats 4000000 in
set_option maxRecDepth 100000 in
theorem f_MT_number_j51_a {E : (Nat → Prop) → State → Heap → Prop} {p : Program} {l : Launch} {e : Env} {s : State} {m : MethodId} {args : Array Value} {below : List Frame} {meth : Method} {c : Code} {D : va_G} {ad kd sd vd xd : Nat → Nat} {ca : Nat → ClassId} {A : Nat → Prop} {ky ty : Nat → Option Nat} (hE : o_EK E kd sd vd xd) (hKy : m_KY ky ty sd) (C : o_Cx E p s m args meth c D m_cls (m_tys ca) "SchemaJudgeModel$Text" b_MT_number (some .boolean) 10 cc_MT_number A) (hDD : ∀ (rt : Nat) (Ni : SNI) (Np : SNP) (No : SNO) (Nx : SNX) (Nf : SNF) (Na : SNA) (Nh : SNH) (Nq : SNQ) (Nj : SNJ) (M0 : SMT) (M1 : SMT), va_D A (m_cw ad ca ky ty rt Ni Np No Nx Nf Na Nh Nq Nj M0 M1)) (n : Nat) (x2 : Int32) (x3 : Int32) (x4 : Int32) (x5 : Int32) (y1 : Int32) (y2 : Int32) (a0 : SMT) (Ni : SNI) (Np : SNP) (No : SNO) (Nx : SNX) (Nf : SNF) (Na : SNA) (Nh : SNH) (Nq : SNQ) (Nj : SNJ) (M1 : SMT) (rt : Nat) {r : Int32 × SMT} (h : m_MT_number_j51 n x2 x3 x4 x5 y1 y2 a0 = some r) : o_At p l e rm_MT_number s m args below meth c (MQ below (o_Qx D m_cls (some (.int r.1)) (m_cw ad ca ky ty rt Ni Np No Nx Nf Na Nh Nq Nj r.2 M1) A) args s 0 0 A) m_cls D A 10 51 [.int y2, .int y1, .ref (ad 46)] (m_cw ad ca ky ty rt Ni Np No Nx Nf Na Nh Nq Nj a0 M1) [(0, .ref (ad 33)), (2, .int x2), (3, .int x3), (4, .int x4), (5, .int x5)] := by
  unfold m_MT_number_j51 at h
  intro H locs ls hP hS hl
  have C0 := C
  obtain ⟨hx, hb, -, -, -, hown, hts, hK, -, -⟩ := C0
  obtain ⟨g3, h⟩ := o_gd_some h
  refine o_zast (f := (MT_minus a0)) (w1 := (m_cw ad ca ky ty rt Ni Np No Nx Nf Na Nh Nq Nj (MT_mk (MT_text a0) (MT_kind a0) (MT_place a0) (MT_many a0) (MT_parent a0) (MT_power a0) (MT_first a0) (MT_next a0) (MT_name a0) (MT_from a0) (MT_characters a0) (MT_digits a0) (upd (MT_minus a0) y1.toNatClampNeg (vp_nar .boolean y2)) (MT_values a0) (MT_letters a0) (MT_at a0) (MT_wrong a0) (MT_used a0) (MT_written a0) (MT_left a0)) M1)) C hP (hDD _ _ _ _ _ _ _ _ _ _ _ _) hS 46 44 mw_46 rfl g3 rfl d_MT_number_51 (fun H locs hP hS => ?_)
  refine lv_aload_n hx hb d_MT_number_52 rfl (lv_at hl 0 rfl) ?_
  refine o_get (v := .ref (ad 46)) C in_MT hP 33 mw_33 rfl 12 (by decide) k_7_124 rfl rfl d_MT_number_53 ?_
  refine lv_iload_n hx hb d_MT_number_56 rfl (lv_at hl 1 rfl) ?_
  obtain ⟨g4, h⟩ := o_gd_some h
  refine o_zald (f := (upd (MT_minus a0) y1.toNatClampNeg (vp_nar .boolean y2))) C hP 46 44 mw_46 rfl g4 d_MT_number_57 ?_
  refine lv_if_eq (tgt := 71) hx hb d_MT_number_58 (by decide) (fun c5 => ?_) (fun c5 => ?_)
  · replace h := o_tt c5 h
    exact f_MT_number_j71_a hE hKy C hDD n x2 x3 x4 x5 (MT_mk (MT_text a0) (MT_kind a0) (MT_place a0) (MT_many a0) (MT_parent a0) (MT_power a0) (MT_first a0) (MT_next a0) (MT_name a0) (MT_from a0) (MT_characters a0) (MT_digits a0) (upd (MT_minus a0) y1.toNatClampNeg (vp_nar .boolean y2)) (MT_values a0) (MT_letters a0) (MT_at a0) (MT_wrong a0) (MT_used a0) (MT_written a0) (MT_left a0)) Ni Np No Nx Nf Na Nh Nq Nj M1 rt h _ _ _ hP hS (lv_sub hl [0, 1, 2, 3, 4] rfl)
  · replace h := o_ff c5 h
    refine lv_aload_n hx hb d_MT_number_61 rfl (lv_at hl 0 rfl) ?_
    refine lv_dup hx hb d_MT_number_62 rfl ?_
    refine o_get (v := .int (MT_at a0)) C in_MT hP 33 mw_33 rfl 15 (by decide) k_7_129 rfl rfl d_MT_number_63 ?_
    refine lv_iconst (v := (1:Int32)) hx hb d_MT_number_66 (by decide) ?_
    refine lv_iadd hx hb d_MT_number_67 ?_
    refine o_put (v := .int ((MT_at a0) + (1:Int32))) (ty := .int) (w1 := (m_cw ad ca ky ty rt Ni Np No Nx Nf Na Nh Nq Nj (MT_mk (MT_text a0) (MT_kind a0) (MT_place a0) (MT_many a0) (MT_parent a0) (MT_power a0) (MT_first a0) (MT_next a0) (MT_name a0) (MT_from a0) (MT_characters a0) (MT_digits a0) (upd (MT_minus a0) y1.toNatClampNeg (vp_nar .boolean y2)) (MT_values a0) (MT_letters a0) ((MT_at a0) + (1:Int32)) (MT_wrong a0) (MT_used a0) (MT_written a0) (MT_left a0)) M1)) C in_MT t_MT t_MT_ok n_MT hP (hDD _ _ _ _ _ _ _ _ _ _ _ _) hS 33 mw_33 rfl 15 (by decide) k_7_129 rfl rfl (by decide +kernel) rfl rfl (Nat.le_of_ble_eq_true rfl) rfl d_MT_number_68 (fun H locs hP hS => ?_)
    exact f_MT_number_j71_a hE hKy C hDD n x2 x3 x4 x5 (MT_mk (MT_text a0) (MT_kind a0) (MT_place a0) (MT_many a0) (MT_parent a0) (MT_power a0) (MT_first a0) (MT_next a0) (MT_name a0) (MT_from a0) (MT_characters a0) (MT_digits a0) (upd (MT_minus a0) y1.toNatClampNeg (vp_nar .boolean y2)) (MT_values a0) (MT_letters a0) ((MT_at a0) + (1:Int32)) (MT_wrong a0) (MT_used a0) (MT_written a0) (MT_left a0)) Ni Np No Nx Nf Na Nh Nq Nj M1 rt h _ _ _ hP hS (lv_sub hl [0, 1, 2, 3, 4] rfl)
set_option maxHeartbeats 4000000 in
set_option maxRecDepth 100000 in
theorem e_MT_number_a {E : (Nat → Prop) → State → Heap → Prop} {D : va_G} {ad kd sd vd xd : Nat → Nat} {ca : Nat → ClassId} {ky ty : Nat → Option Nat} (hE : o_EK E kd sd vd xd) (hKy : m_KY ky ty sd) (l : Launch) (n : Nat) (x1 : Int32) (a0 : SMT) (Ni : SNI) (Np : SNP) (No : SNO) (Nx : SNX) (Nf : SNF) (Na : SNA) (Nh : SNH) (Nq : SNQ) (Nj : SNJ) (M1 : SMT) (rt : Nat) {r : Int32 × SMT} (h : m_MT_number n x1 a0 = some r) : o_Cn E l D m_cls (m_tys ca) y_MT_number cc_MT_number rm_MT_number [.ref (ad 33), .int x1] (m_cw ad ca ky ty rt Ni Np No Nx Nf Na Nh Nq Nj a0 M1) (m_cw ad ca ky ty rt Ni Np No Nx Nf Na Nh Nq Nj r.2 M1) (some (.int r.1)) := by
  refine o_Cn_of (by decide) (Nat.le_of_ble_eq_true rfl) ?_
  intro p e s m below meth c A ls C hD hP hS hl
  have hDD : ∀ (rt : Nat) (Ni : SNI) (Np : SNP) (No : SNO) (Nx : SNX) (Nf : SNF) (Na : SNA) (Nh : SNH) (Nq : SNQ) (Nj : SNJ) (M0 : SMT) (M1 : SMT), va_D A (m_cw ad ca ky ty rt Ni Np No Nx Nf Na Nh Nq Nj M0 M1) := fun _ _ _ _ _ _ _ _ _ _ _ _ => o_D_map hD rfl
  have hl : lv_has ls 10 [(0, .ref (ad 33)), (1, .int x1)] := hl
  unfold m_MT_number at h
  have C0 := C
  obtain ⟨hx, hb, -, -, -, hown, hts, hK, -, -⟩ := C0
  refine lv_aload_n hx hb d_MT_number_0 rfl (lv_at hl 0 rfl) ?_
  refine lv_iload_n hx hb d_MT_number_1 rfl (lv_at hl 1 rfl) ?_
  refine lv_iconst (v := (3:Int32)) hx hb d_MT_number_2 (by decide) ?_
  obtain ⟨q1, hq1, h⟩ := o_bd_some h
  refine o_V (st1 := [.int q1.1]) (w1 := (m_cw ad ca ky ty rt Ni Np No Nx Nf Na Nh Nq Nj q1.2 M1)) hE.1 C (e_MT_fresh_a hE hKy l x1 (3:Int32) a0 Ni Np No Nx Nf Na Nh Nq Nj M1 rt hq1) hP (hDD _ _ _ _ _ _ _ _ _ _ _ _) hS hl.1 rfl mw_33 k_8_212 k_8_213 k_8_214 k_1_13 k_8_215 hv_MT_fresh rfl rfl ⟨(Nat.le_of_ble_eq_true rfl), (Nat.le_of_ble_eq_true rfl)⟩ rfl (Nat.le_of_ble_eq_true rfl) ⟨Nat.zero_le _, Nat.zero_le _⟩ rfl d_MT_number_3 (fun H locs hP hS => ?_)
  refine lv_istore_n (lv' := [(2, .int q1.1), (0, .ref (ad 33)), (1, .int x1)]) hx hb d_MT_number_6 rfl hl (by decide) rfl (fun ls hl => ?_)
  refine lv_aload_n hx hb d_MT_number_7 rfl (lv_at hl 1 rfl) ?_
  refine o_get (v := .int (MT_at q1.2)) C in_MT hP 33 mw_33 rfl 15 (by decide) k_7_129 rfl rfl d_MT_number_8 ?_
  refine lv_topi (fun x3_11 ex3_11 => ?_)
  replace h := o_nm_at ex3_11 h
  refine lv_istore_n (lv' := [(3, .int x3_11), (2, .int q1.1), (0, .ref (ad 33)), (1, .int x1)]) hx hb d_MT_number_11 rfl hl (by decide) rfl (fun ls hl => ?_)
  refine lv_iconst (v := (0:Int32)) hx hb d_MT_number_12 (by decide) ?_
  refine lv_istore (lv' := [(4, .int (0:Int32)), (3, .int x3_11), (2, .int q1.1), (0, .ref (ad 33)), (1, .int x1)]) hx hb d_MT_number_13 hl (by decide) rfl (fun ls hl => ?_)
  refine lv_iconst (v := (0:Int32)) hx hb d_MT_number_15 (by decide) ?_
  refine lv_istore (lv' := [(5, .int (0:Int32)), (4, .int (0:Int32)), (3, .int x3_11), (2, .int q1.1), (0, .ref (ad 33)), (1, .int x1)]) hx hb d_MT_number_16 hl (by decide) rfl (fun ls hl => ?_)
  refine lv_aload_n hx hb d_MT_number_18 rfl (lv_at hl 4 rfl) ?_
  refine o_get (v := .ref (ad 43)) C in_MT hP 33 mw_33 rfl 9 (by decide) k_7_118 rfl rfl d_MT_number_19 ?_
  refine lv_iload_n hx hb d_MT_number_22 rfl (lv_at hl 3 rfl) ?_
  refine lv_aload_n hx hb d_MT_number_23 rfl (lv_at hl 4 rfl) ?_
  refine o_get (v := .int (MT_written q1.2)) C in_MT hP 33 mw_33 rfl 18 (by decide) k_7_132 rfl rfl d_MT_number_24 ?_
  obtain ⟨g1, h⟩ := o_gd_some h
  refine o_iast (f := (MT_from q1.2)) (w1 := (m_cw ad ca ky ty rt Ni Np No Nx Nf Na Nh Nq Nj (MT_mk (MT_text q1.2) (MT_kind q1.2) (MT_place q1.2) (MT_many q1.2) (MT_parent q1.2) (MT_power q1.2) (MT_first q1.2) (MT_next q1.2) (MT_name q1.2) (upd (MT_from q1.2) q1.1.toNatClampNeg (MT_written q1.2)) (MT_characters q1.2) (MT_digits q1.2) (MT_minus q1.2) (MT_values q1.2) (MT_letters q1.2) (MT_at q1.2) (MT_wrong q1.2) (MT_used q1.2) (MT_written q1.2) (MT_left q1.2)) M1)) C hP (hDD _ _ _ _ _ _ _ _ _ _ _ _) hS 43 41 mw_43 rfl g1 rfl d_MT_number_27 (fun H locs hP hS => ?_)
  refine lv_aload_n hx hb d_MT_number_28 rfl (lv_at hl 4 rfl) ?_
  refine o_get (v := .ref (ad 46)) C in_MT hP 33 mw_33 rfl 12 (by decide) k_7_124 rfl rfl d_MT_number_29 ?_
  refine lv_iload_n hx hb d_MT_number_32 rfl (lv_at hl 3 rfl) ?_
  refine lv_aload_n hx hb d_MT_number_33 rfl (lv_at hl 4 rfl) ?_
  refine lv_aload_n hx hb d_MT_number_34 rfl (lv_at hl 4 rfl) ?_
  refine o_get (v := .int (MT_at q1.2)) C in_MT hP 33 mw_33 rfl 15 (by decide) k_7_129 rfl rfl d_MT_number_35 ?_
  obtain ⟨q2, hq2, h⟩ := o_bd_some h
  refine o_V (st1 := [.int q2, .int q1.1, .ref (ad 46)]) (w1 := (m_cw ad ca ky ty rt Ni Np No Nx Nf Na Nh Nq Nj (MT_mk (MT_text q1.2) (MT_kind q1.2) (MT_place q1.2) (MT_many q1.2) (MT_parent q1.2) (MT_power q1.2) (MT_first q1.2) (MT_next q1.2) (MT_name q1.2) (upd (MT_from q1.2) q1.1.toNatClampNeg (MT_written q1.2)) (MT_characters q1.2) (MT_digits q1.2) (MT_minus q1.2) (MT_values q1.2) (MT_letters q1.2) (MT_at q1.2) (MT_wrong q1.2) (MT_used q1.2) (MT_written q1.2) (MT_left q1.2)) M1)) hE.1 C (e_MT_c_a hE hKy l (MT_at q1.2) (MT_mk (MT_text q1.2) (MT_kind q1.2) (MT_place q1.2) (MT_many q1.2) (MT_parent q1.2) (MT_power q1.2) (MT_first q1.2) (MT_next q1.2) (MT_name q1.2) (upd (MT_from q1.2) q1.1.toNatClampNeg (MT_written q1.2)) (MT_characters q1.2) (MT_digits q1.2) (MT_minus q1.2) (MT_values q1.2) (MT_letters q1.2) (MT_at q1.2) (MT_wrong q1.2) (MT_used q1.2) (MT_written q1.2) (MT_left q1.2)) Ni Np No Nx Nf Na Nh Nq Nj M1 rt hq2) hP (hDD _ _ _ _ _ _ _ _ _ _ _ _) hS hl.1 rfl mw_33 k_8_192 k_8_193 k_8_194 k_1_13 k_8_195 hv_MT_c rfl rfl ⟨(Nat.le_of_ble_eq_true rfl), (Nat.le_of_ble_eq_true rfl)⟩ rfl (Nat.le_of_ble_eq_true rfl) ⟨Nat.zero_le _, Nat.zero_le _⟩ rfl d_MT_number_38 (fun H locs hP hS => ?_)
  refine lv_bipush (v := (45:Int32)) hx hb d_MT_number_41 (by decide) ?_
  refine lv_icmp_ne (tgt := 50) hx hb d_MT_number_43 (by decide) (fun c2 => ?_) (fun c2 => ?_)
  · replace h := o_ff c2 h
    refine lv_iconst (v := (0:Int32)) hx hb d_MT_number_50 (by decide) ?_
    exact f_MT_number_j51_a hE hKy C hDD n q1.1 x3_11 (0:Int32) (0:Int32) q1.1 (0:Int32) (MT_mk (MT_text q1.2) (MT_kind q1.2) (MT_place q1.2) (MT_many q1.2) (MT_parent q1.2) (MT_power q1.2) (MT_first q1.2) (MT_next q1.2) (MT_name q1.2) (upd (MT_from q1.2) q1.1.toNatClampNeg (MT_written q1.2)) (MT_characters q1.2) (MT_digits q1.2) (MT_minus q1.2) (MT_values q1.2) (MT_letters q1.2) (MT_at q1.2) (MT_wrong q1.2) (MT_used q1.2) (MT_written q1.2) (MT_left q1.2)) Ni Np No Nx Nf Na Nh Nq Nj M1 rt h _ _ _ hP hS (lv_sub hl [4, 3, 2, 1, 0] rfl)
  · replace h := o_tt c2 h
    refine lv_iconst (v := (1:Int32)) hx hb d_MT_number_46 (by decide) ?_
    refine lv_goto (tgt := 51) hx hb d_MT_number_47 (by decide) ?_
    exact f_MT_number_j51_a hE hKy C hDD n q1.1 x3_11 (0:Int32) (0:Int32) q1.1 (1:Int32) (MT_mk (MT_text q1.2) (MT_kind q1.2) (MT_place q1.2) (MT_many q1.2) (MT_parent q1.2) (MT_power q1.2) (MT_first q1.2) (MT_next q1.2) (MT_name q1.2) (upd (MT_from q1.2) q1.1.toNatClampNeg (MT_written q1.2)) (MT_characters q1.2) (MT_digits q1.2) (MT_minus q1.2) (MT_values q1.2) (MT_letters q1.2) (MT_at q1.2) (MT_wrong q1.2) (MT_used q1.2) (MT_written q1.2) (MT_left q1.2)) Ni Np No Nx Nf Na Nh Nq Nj M1 rt h _ _ _ hP hS (lv_sub hl [4, 3, 2, 1, 0] rfl)
