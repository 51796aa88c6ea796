set_option maxHeartbeats 4000000 in
set_option maxRecDepth 100000 in
theorem w_Tx_same_j125_11 {E : (Nat → Prop) → State → Heap → Prop} {p : Program} {l : Launch} {e : Env} {s : State} {m : MethodId} {args : Array Value} {below : List Frame} {meth : Method} {c : Code} {D : va_G} {ad kd sd vd xd : Nat → Nat} {ca : Nat → ClassId} {A : Nat → Prop} {Q : State → Prop} (hE : o_EK E kd sd vd xd) (C : o_Cx E p s m args meth c D o_cls (o_tys ca) "SchemaJudge$Text" b_Tx_same (some .boolean) 10 cc_Tx_same A) (hDD : ∀ (rt : Nat) (Sj : SSJ) (T0 : STx) (T1 : STx) (Rd : SRd) (Pg : SPg) (Pt : SPt) (Mk : SMk) (Lk : SLk) (Ck : SCk) (Jd : SJd) (Ld : SLd) (Pr : SPr), va_D A (o_cw ad ca rt Sj T0 T1 Rd Pg Pt Mk Lk Ck Jd Ld Pr)) (d : Nat) (rec : Int32 → Int32 → Int32 → STx → STx → Option (Int32)) (hrec : ∀ (x1 : Int32) (x3 : Int32) (x4 : Int32) (a0 : STx) (Sj : SSJ) (T0 : STx) (Rd : SRd) (Pg : SPg) (Pt : SPt) (Mk : SMk) (Lk : SLk) (Ck : SCk) (Jd : SJd) (Ld : SLd) (Pr : SPr) (rt : Nat) (r : Int32), rec x1 x3 x4 a0 a0 = some r → o_Cn E l D o_cls (o_tys ca) y_Tx_same cc_Tx_same (rm_Tx_same d) [.ref (ad 12), .int x1, .ref (ad 12), .int x3, .int x4] (o_cw ad ca rt Sj T0 a0 Rd Pg Pt Mk Lk Ck Jd Ld Pr) (o_cw ad ca rt Sj T0 a0 Rd Pg Pt Mk Lk Ck Jd Ld Pr) (some (.int r))) (n : Nat) (u94_x1 : Int32) (u94_x3 : Int32) (u94_x4 : Int32) (u94_x5 : Int32) (u94_a0 : STx) (u94_Sj : SSJ) (u94_T0 : STx) (u94_Rd : SRd) (u94_Pg : SPg) (u94_Pt : SPt) (u94_Mk : SMk) (u94_Lk : SLk) (u94_Ck : SCk) (u94_Jd : SJd) (u94_Ld : SLd) (u94_Pr : SPr) (u94_rt : Nat) (x6 : Int32) (x7 : Int32) (x8 : Int32) (y0 : Int32) {q : Nat × Int32 × Int32 × Int32} (h : m_Tx_same_j125 n rec u94_x1 u94_x3 u94_x4 u94_x5 x6 x7 x8 y0 u94_a0 u94_a0 = some q) (h0 : q.1 = 0 → o_At p l e (rm_Tx_same (d + 1)) s m args below meth c Q o_cls D A 10 94 [] (o_cw ad ca u94_rt u94_Sj u94_T0 u94_a0 u94_Rd u94_Pg u94_Pt u94_Mk u94_Lk u94_Ck u94_Jd u94_Ld u94_Pr) [(0, .ref (ad 12)), (1, .int u94_x1), (2, .ref (ad 12)), (3, .int u94_x3), (4, .int u94_x4), (5, .int u94_x5), (6, .int q.2.1), (7, .int q.2.2.1), (8, .int q.2.2.2)]) (h1 : q.1 ≠ 0 → (if q.1 = 1 then o_At p l e (rm_Tx_same (d + 1)) s m args below meth c Q o_cls D A 10 149 [] (o_cw ad ca u94_rt u94_Sj u94_T0 u94_a0 u94_Rd u94_Pg u94_Pt u94_Mk u94_Lk u94_Ck u94_Jd u94_Ld u94_Pr) [] else o_At p l e (rm_Tx_same (d + 1)) s m args below meth c Q o_cls D A 10 173 [] (o_cw ad ca u94_rt u94_Sj u94_T0 u94_a0 u94_Rd u94_Pg u94_Pt u94_Mk u94_Lk u94_Ck u94_Jd u94_Ld u94_Pr) [])) : o_At p l e (rm_Tx_same (d + 1)) s m args below meth c Q o_cls D A 10 125 [.int y0] (o_cw ad ca u94_rt u94_Sj u94_T0 u94_a0 u94_Rd u94_Pg u94_Pt u94_Mk u94_Lk u94_Ck u94_Jd u94_Ld u94_Pr) [(0, .ref (ad 12)), (1, .int u94_x1), (2, .ref (ad 12)), (3, .int u94_x3), (4, .int u94_x4), (5, .int u94_x5), (6, .int x6), (7, .int x7), (8, .int x8)] := by
  unfold m_Tx_same_j125 at h
  intro H locs ls hP hS hl
  have C0 := C
  obtain ⟨hx, hb, -, -, -, hown, hts, hK, -, -⟩ := C0
  refine lv_istore (lv' := [(9, .int y0), (0, .ref (ad 12)), (1, .int u94_x1), (2, .ref (ad 12)), (3, .int u94_x3), (4, .int u94_x4), (5, .int u94_x5), (6, .int x6), (7, .int x7), (8, .int x8)]) hx hb d_Tx_same_125 hl (by decide) rfl (fun ls hl => ?_)
  refine lv_iload hx hb d_Tx_same_127 (lv_at hl 0 rfl) ?_
  refine lv_iconst (v := (-1:Int32)) hx hb d_Tx_same_129 (by decide) ?_
  refine lv_icmp_eq (tgt := 149) hx hb d_Tx_same_130 (by decide) (fun c8 => ?_) (fun c8 => ?_)
  · replace h := o_tt c8 h
    cases h
    exact h1 (Nat.succ_ne_zero 0) _ _ _ hP hS (lv_sub hl [] rfl)
  · replace h := o_ff c8 h
    refine lv_aload_n hx hb d_Tx_same_133 rfl (lv_at hl 1 rfl) ?_
    refine lv_iload hx hb d_Tx_same_134 (lv_at hl 7 rfl) ?_
    refine lv_aload_n hx hb d_Tx_same_136 rfl (lv_at hl 3 rfl) ?_
    refine lv_iload hx hb d_Tx_same_137 (lv_at hl 0 rfl) ?_
    refine lv_iload hx hb d_Tx_same_139 (lv_at hl 5 rfl) ?_
    refine lv_iconst (v := (1:Int32)) hx hb d_Tx_same_141 (by decide) ?_
    refine lv_iadd hx hb d_Tx_same_142 ?_
    obtain ⟨q9, hq9, h⟩ := o_bd_some h
    refine o_S (st1 := [.int q9]) (w1 := (o_cw ad ca u94_rt u94_Sj u94_T0 u94_a0 u94_Rd u94_Pg u94_Pt u94_Mk u94_Lk u94_Ck u94_Jd u94_Ld u94_Pr)) hE.1 C (hrec x6 y0 (u94_x4 + (1:Int32)) u94_a0 u94_Sj u94_T0 u94_Rd u94_Pg u94_Pt u94_Mk u94_Lk u94_Ck u94_Jd u94_Ld u94_Pr u94_rt _ hq9) hP (hDD _ _ _ _ _ _ _ _ _ _ _ _ _) hS hl.1 k_6_188 k_6_182 k_1_2 k_6_183 hs_Tx_same rfl rfl ⟨(by dsimp only [rm_Tx_same, rm_Tx_same]; omega), (by dsimp only [rm_Tx_same, rm_Tx_same]; omega)⟩ rfl (Nat.le_of_ble_eq_true rfl) ⟨Nat.zero_le _, Nat.zero_le _⟩ rfl d_Tx_same_143 (fun H locs hP hS => ?_)
    refine lv_if_ne (tgt := 151) hx hb d_Tx_same_146 (by decide) (fun c9 => ?_) (fun c9 => ?_)
    · replace h := o_ff c9 h
      refine lv_aload_n hx hb d_Tx_same_151 rfl (lv_at hl 1 rfl) ?_
      refine lv_iload hx hb d_Tx_same_152 (lv_at hl 7 rfl) ?_
      obtain ⟨q10, hq10, h⟩ := o_bd_some h
      refine o_V (st1 := [.int q10]) (w1 := (o_cw ad ca u94_rt u94_Sj u94_T0 u94_a0 u94_Rd u94_Pg u94_Pt u94_Mk u94_Lk u94_Ck u94_Jd u94_Ld u94_Pr)) hE.1 C (c_Tx_nextChild_1 hE l x6 u94_a0 u94_Sj u94_T0 u94_Rd u94_Pg u94_Pt u94_Mk u94_Lk u94_Ck u94_Jd u94_Ld u94_Pr u94_rt hq10) hP (hDD _ _ _ _ _ _ _ _ _ _ _ _ _) hS hl.1 rfl cw_12 k_3_221 k_3_222 k_3_223 k_1_2 k_3_224 hv_Tx_nextChild rfl rfl ⟨(by dsimp only [rm_Tx_same, rm_Tx_nextChild]; omega), (by dsimp only [rm_Tx_same, rm_Tx_nextChild]; omega)⟩ rfl (Nat.le_of_ble_eq_true rfl) ⟨Nat.zero_le _, Nat.zero_le _⟩ rfl d_Tx_same_154 (fun H locs hP hS => ?_)
      refine lv_istore (lv' := [(6, .int q10), (9, .int y0), (0, .ref (ad 12)), (1, .int u94_x1), (2, .ref (ad 12)), (3, .int u94_x3), (4, .int u94_x4), (5, .int u94_x5), (7, .int x7), (8, .int x8)]) hx hb d_Tx_same_157 hl (by decide) rfl (fun ls hl => ?_)
      refine lv_aload_n hx hb d_Tx_same_159 rfl (lv_at hl 4 rfl) ?_
      refine lv_iload hx hb d_Tx_same_160 (lv_at hl 8 rfl) ?_
      obtain ⟨q11, hq11, h⟩ := o_bd_some h
      refine o_V (st1 := [.int q11]) (w1 := (o_cw ad ca u94_rt u94_Sj u94_T0 u94_a0 u94_Rd u94_Pg u94_Pt u94_Mk u94_Lk u94_Ck u94_Jd u94_Ld u94_Pr)) hE.1 C (c_Tx_nextChild_1 hE l x7 u94_a0 u94_Sj u94_T0 u94_Rd u94_Pg u94_Pt u94_Mk u94_Lk u94_Ck u94_Jd u94_Ld u94_Pr u94_rt hq11) hP (hDD _ _ _ _ _ _ _ _ _ _ _ _ _) hS hl.1 rfl cw_12 k_3_221 k_3_222 k_3_223 k_1_2 k_3_224 hv_Tx_nextChild rfl rfl ⟨(by dsimp only [rm_Tx_same, rm_Tx_nextChild]; omega), (by dsimp only [rm_Tx_same, rm_Tx_nextChild]; omega)⟩ rfl (Nat.le_of_ble_eq_true rfl) ⟨Nat.zero_le _, Nat.zero_le _⟩ rfl d_Tx_same_162 (fun H locs hP hS => ?_)
      refine lv_istore (lv' := [(7, .int q11), (6, .int q10), (9, .int y0), (0, .ref (ad 12)), (1, .int u94_x1), (2, .ref (ad 12)), (3, .int u94_x3), (4, .int u94_x4), (5, .int u94_x5), (8, .int x8)]) hx hb d_Tx_same_165 hl (by decide) rfl (fun ls hl => ?_)
      obtain ⟨x8_167, ex8_167⟩ : ∃ y : Int32, y = x8 + (1:Int32) := ⟨_, rfl⟩
      replace h := o_nm_at ex8_167 h
      refine lv_iinc (v := x8_167) (lv' := [(8, .int x8_167), (7, .int q11), (6, .int q10), (9, .int y0), (0, .ref (ad 12)), (1, .int u94_x1), (2, .ref (ad 12)), (3, .int u94_x3), (4, .int u94_x4), (5, .int u94_x5)]) hx hb d_Tx_same_167 hl (k := 9) rfl (by rw [ex8_167]; rfl) (by decide) rfl (fun ls hl => ?_)
      refine lv_goto (tgt := 94) hx hb d_Tx_same_170 (by decide) ?_
      cases h
      exact h0 rfl _ _ _ hP hS (lv_sub hl [4, 5, 6, 7, 8, 9, 2, 1, 0] rfl)
    · replace h := o_tt c9 h
      cases h
      exact h1 (Nat.succ_ne_zero 0) _ _ _ hP hS (lv_sub hl [] rfl)
set_option maxHeartbeats 4000000 in
set_option maxRecDepth 100000 in
theorem w_Tx_same_b94_11 {E : (Nat → Prop) → State → Heap → Prop} {p : Program} {l : Launch} {e : Env} {s : State} {m : MethodId} {args : Array Value} {below : List Frame} {meth : Method} {c : Code} {D : va_G} {ad kd sd vd xd : Nat → Nat} {ca : Nat → ClassId} {A : Nat → Prop} {Q : State → Prop} (hE : o_EK E kd sd vd xd) (C : o_Cx E p s m args meth c D o_cls (o_tys ca) "SchemaJudge$Text" b_Tx_same (some .boolean) 10 cc_Tx_same A) (hDD : ∀ (rt : Nat) (Sj : SSJ) (T0 : STx) (T1 : STx) (Rd : SRd) (Pg : SPg) (Pt : SPt) (Mk : SMk) (Lk : SLk) (Ck : SCk) (Jd : SJd) (Ld : SLd) (Pr : SPr), va_D A (o_cw ad ca rt Sj T0 T1 Rd Pg Pt Mk Lk Ck Jd Ld Pr)) (d : Nat) (rec : Int32 → Int32 → Int32 → STx → STx → Option (Int32)) (hrec : ∀ (x1 : Int32) (x3 : Int32) (x4 : Int32) (a0 : STx) (Sj : SSJ) (T0 : STx) (Rd : SRd) (Pg : SPg) (Pt : SPt) (Mk : SMk) (Lk : SLk) (Ck : SCk) (Jd : SJd) (Ld : SLd) (Pr : SPr) (rt : Nat) (r : Int32), rec x1 x3 x4 a0 a0 = some r → o_Cn E l D o_cls (o_tys ca) y_Tx_same cc_Tx_same (rm_Tx_same d) [.ref (ad 12), .int x1, .ref (ad 12), .int x3, .int x4] (o_cw ad ca rt Sj T0 a0 Rd Pg Pt Mk Lk Ck Jd Ld Pr) (o_cw ad ca rt Sj T0 a0 Rd Pg Pt Mk Lk Ck Jd Ld Pr) (some (.int r))) (n : Nat) (u94_x1 : Int32) (u94_x3 : Int32) (u94_x4 : Int32) (u94_x5 : Int32) (u94_a0 : STx) (u94_Sj : SSJ) (u94_T0 : STx) (u94_Rd : SRd) (u94_Pg : SPg) (u94_Pt : SPt) (u94_Mk : SMk) (u94_Lk : SLk) (u94_Ck : SCk) (u94_Jd : SJd) (u94_Ld : SLd) (u94_Pr : SPr) (u94_rt : Nat) (z : Int32 × Int32 × Int32) (q : Nat × Int32 × Int32 × Int32) (h : m_Tx_same_b94 n rec u94_x1 u94_x3 u94_x4 u94_x5 u94_a0 u94_a0 z = some q) (h0 : q.1 = 0 → o_At p l e (rm_Tx_same (d + 1)) s m args below meth c Q o_cls D A 10 94 [] (o_cw ad ca u94_rt u94_Sj u94_T0 u94_a0 u94_Rd u94_Pg u94_Pt u94_Mk u94_Lk u94_Ck u94_Jd u94_Ld u94_Pr) [(0, .ref (ad 12)), (1, .int u94_x1), (2, .ref (ad 12)), (3, .int u94_x3), (4, .int u94_x4), (5, .int u94_x5), (6, .int q.2.1), (7, .int q.2.2.1), (8, .int q.2.2.2)]) (h1 : q.1 ≠ 0 → (if q.1 = 1 then o_At p l e (rm_Tx_same (d + 1)) s m args below meth c Q o_cls D A 10 149 [] (o_cw ad ca u94_rt u94_Sj u94_T0 u94_a0 u94_Rd u94_Pg u94_Pt u94_Mk u94_Lk u94_Ck u94_Jd u94_Ld u94_Pr) [] else o_At p l e (rm_Tx_same (d + 1)) s m args below meth c Q o_cls D A 10 173 [] (o_cw ad ca u94_rt u94_Sj u94_T0 u94_a0 u94_Rd u94_Pg u94_Pt u94_Mk u94_Lk u94_Ck u94_Jd u94_Ld u94_Pr) [])) : o_At p l e (rm_Tx_same (d + 1)) s m args below meth c Q o_cls D A 10 94 [] (o_cw ad ca u94_rt u94_Sj u94_T0 u94_a0 u94_Rd u94_Pg u94_Pt u94_Mk u94_Lk u94_Ck u94_Jd u94_Ld u94_Pr) [(0, .ref (ad 12)), (1, .int u94_x1), (2, .ref (ad 12)), (3, .int u94_x3), (4, .int u94_x4), (5, .int u94_x5), (6, .int z.1), (7, .int z.2.1), (8, .int z.2.2)] := by
  unfold m_Tx_same_b94 at h
  intro H locs ls hP hS hl
  have C0 := C
  obtain ⟨hx, hb, -, -, -, hown, hts, hK, -, -⟩ := C0
  refine lv_iload hx hb d_Tx_same_94 (lv_at hl 8 rfl) ?_
  refine lv_aload_n hx hb d_Tx_same_96 rfl (lv_at hl 0 rfl) ?_
  refine lv_iload_n hx hb d_Tx_same_97 rfl (lv_at hl 1 rfl) ?_
  obtain ⟨q7, hq7, h⟩ := o_bd_some h
  refine o_V (st1 := [.int q7, .int z.2.2]) (w1 := (o_cw ad ca u94_rt u94_Sj u94_T0 u94_a0 u94_Rd u94_Pg u94_Pt u94_Mk u94_Lk u94_Ck u94_Jd u94_Ld u94_Pr)) hE.1 C (c_Tx_size_1 hE l u94_x1 u94_a0 u94_Sj u94_T0 u94_Rd u94_Pg u94_Pt u94_Mk u94_Lk u94_Ck u94_Jd u94_Ld u94_Pr u94_rt hq7) hP (hDD _ _ _ _ _ _ _ _ _ _ _ _ _) hS hl.1 rfl cw_12 k_3_214 k_3_215 k_3_216 k_1_2 k_3_217 hv_Tx_size rfl rfl ⟨(by dsimp only [rm_Tx_same, rm_Tx_size]; omega), (by dsimp only [rm_Tx_same, rm_Tx_size]; omega)⟩ rfl (Nat.le_of_ble_eq_true rfl) ⟨Nat.zero_le _, Nat.zero_le _⟩ rfl d_Tx_same_98 (fun H locs hP hS => ?_)
  refine lv_icmp_ge (tgt := 173) hx hb d_Tx_same_101 (by decide) (fun c6 => ?_) (fun c6 => ?_)
  · replace h := o_tt c6 h
    cases h
    exact h1 (Nat.succ_ne_zero 1) _ _ _ hP hS (lv_sub hl [] rfl)
  · replace h := o_ff c6 h
    refine lv_iload hx hb d_Tx_same_104 (lv_at hl 5 rfl) ?_
    refine lv_iconst (v := (5:Int32)) hx hb d_Tx_same_106 (by decide) ?_
    refine lv_icmp_ne (tgt := 115) hx hb d_Tx_same_107 (by decide) (fun c7 => ?_) (fun c7 => ?_)
    · replace h := o_ff c7 h
      refine lv_aload_n hx hb d_Tx_same_115 rfl (lv_at hl 2 rfl) ?_
      refine lv_iload_n hx hb d_Tx_same_116 rfl (lv_at hl 3 rfl) ?_
      refine lv_aload_n hx hb d_Tx_same_117 rfl (lv_at hl 0 rfl) ?_
      refine lv_iload hx hb d_Tx_same_118 (lv_at hl 6 rfl) ?_
      refine lv_iconst (v := (1:Int32)) hx hb d_Tx_same_120 (by decide) ?_
      refine lv_isub hx hb d_Tx_same_121 ?_
      obtain ⟨q8, hq8, h⟩ := o_bd_some h
      refine o_V (st1 := [.int q8]) (w1 := (o_cw ad ca u94_rt u94_Sj u94_T0 u94_a0 u94_Rd u94_Pg u94_Pt u94_Mk u94_Lk u94_Ck u94_Jd u94_Ld u94_Pr)) hE.1 C (c_Tx_member_11 hE l n u94_x3 (z.1 - (1:Int32)) u94_a0 u94_Sj u94_T0 u94_Rd u94_Pg u94_Pt u94_Mk u94_Lk u94_Ck u94_Jd u94_Ld u94_Pr u94_rt hq8) hP (hDD _ _ _ _ _ _ _ _ _ _ _ _ _) hS hl.1 rfl cw_12 k_6_187 k_3_207 k_3_208 k_1_2 k_3_209 hv_Tx_member rfl rfl ⟨(by dsimp only [rm_Tx_same, rm_Tx_member]; omega), (by dsimp only [rm_Tx_same, rm_Tx_member]; omega)⟩ rfl (Nat.le_of_ble_eq_true rfl) ⟨Nat.zero_le _, Nat.zero_le _⟩ rfl d_Tx_same_122 (fun H locs hP hS => ?_)
      exact w_Tx_same_j125_11 hE C hDD d rec hrec n u94_x1 u94_x3 u94_x4 u94_x5 u94_a0 u94_Sj u94_T0 u94_Rd u94_Pg u94_Pt u94_Mk u94_Lk u94_Ck u94_Jd u94_Ld u94_Pr u94_rt z.1 z.2.1 z.2.2 q8 h h0 h1 _ _ _ hP hS (lv_sub hl [0, 1, 2, 3, 4, 5, 6, 7, 8] rfl)
    · replace h := o_tt c7 h
      refine lv_iload hx hb d_Tx_same_110 (lv_at hl 7 rfl) ?_
      refine lv_goto (tgt := 125) hx hb d_Tx_same_112 (by decide) ?_
      exact w_Tx_same_j125_11 hE C hDD d rec hrec n u94_x1 u94_x3 u94_x4 u94_x5 u94_a0 u94_Sj u94_T0 u94_Rd u94_Pg u94_Pt u94_Mk u94_Lk u94_Ck u94_Jd u94_Ld u94_Pr u94_rt z.1 z.2.1 z.2.2 z.2.1 h h0 h1 _ _ _ hP hS (lv_sub hl [0, 1, 2, 3, 4, 5, 6, 7, 8] rfl)
set_option maxHeartbeats 4000000 in
set_option maxRecDepth 100000 in
theorem c_Tx_same_11_F {E : (Nat → Prop) → State → Heap → Prop} {D : va_G} {ad kd sd vd xd : Nat → Nat} {ca : Nat → ClassId} (hE : o_EK E kd sd vd xd) (l : Launch) (n : Nat) (d : Nat) (rec : Int32 → Int32 → Int32 → STx → STx → Option (Int32)) (hrec : ∀ (x1 : Int32) (x3 : Int32) (x4 : Int32) (a0 : STx) (Sj : SSJ) (T0 : STx) (Rd : SRd) (Pg : SPg) (Pt : SPt) (Mk : SMk) (Lk : SLk) (Ck : SCk) (Jd : SJd) (Ld : SLd) (Pr : SPr) (rt : Nat) (r : Int32), rec x1 x3 x4 a0 a0 = some r → o_Cn E l D o_cls (o_tys ca) y_Tx_same cc_Tx_same (rm_Tx_same d) [.ref (ad 12), .int x1, .ref (ad 12), .int x3, .int x4] (o_cw ad ca rt Sj T0 a0 Rd Pg Pt Mk Lk Ck Jd Ld Pr) (o_cw ad ca rt Sj T0 a0 Rd Pg Pt Mk Lk Ck Jd Ld Pr) (some (.int r))) (x1 : Int32) (x3 : Int32) (x4 : Int32) (a0 : STx) (Sj : SSJ) (T0 : STx) (Rd : SRd) (Pg : SPg) (Pt : SPt) (Mk : SMk) (Lk : SLk) (Ck : SCk) (Jd : SJd) (Ld : SLd) (Pr : SPr) (rt : Nat) {r : Int32} (h : m_Tx_same_F n rec x1 x3 x4 a0 a0 = some r) : o_Cn E l D o_cls (o_tys ca) y_Tx_same cc_Tx_same (rm_Tx_same (d + 1)) [.ref (ad 12), .int x1, .ref (ad 12), .int x3, .int x4] (o_cw ad ca rt Sj T0 a0 Rd Pg Pt Mk Lk Ck Jd Ld Pr) (o_cw ad ca rt Sj T0 a0 Rd Pg Pt Mk Lk Ck Jd Ld Pr) (some (.int r)) := by
  refine o_Cn_of (by decide) (Nat.le_of_ble_eq_true rfl) ?_
  intro p e s m below meth c A ls C hD hP hS hl
  have hDD : ∀ (rt : Nat) (Sj : SSJ) (T0 : STx) (T1 : STx) (Rd : SRd) (Pg : SPg) (Pt : SPt) (Mk : SMk) (Lk : SLk) (Ck : SCk) (Jd : SJd) (Ld : SLd) (Pr : SPr), va_D A (o_cw ad ca rt Sj T0 T1 Rd Pg Pt Mk Lk Ck Jd Ld Pr) := fun _ _ _ _ _ _ _ _ _ _ _ _ _ => o_D_map hD rfl
  have hl : lv_has ls 10 [(0, .ref (ad 12)), (1, .int x1), (2, .ref (ad 12)), (3, .int x3), (4, .int x4)] := hl
  unfold m_Tx_same_F at h
  have C0 := C
  obtain ⟨hx, hb, -, -, -, hown, hts, hK, -, -⟩ := C0
  refine lv_aload_n hx hb d_Tx_same_0 rfl (lv_at hl 0 rfl) ?_
  refine lv_iload_n hx hb d_Tx_same_1 rfl (lv_at hl 1 rfl) ?_
  obtain ⟨q1, hq1, h⟩ := o_bd_some h
  refine o_V (st1 := [.int q1]) (w1 := (o_cw ad ca rt Sj T0 a0 Rd Pg Pt Mk Lk Ck Jd Ld Pr)) hE.1 C (c_Tx_kind_1 hE l x1 a0 Sj T0 Rd Pg Pt Mk Lk Ck Jd Ld Pr rt hq1) hP (hDD _ _ _ _ _ _ _ _ _ _ _ _ _) hS hl.1 rfl cw_12 k_5_64 k_4_50 k_4_51 k_1_2 k_4_52 hv_Tx_kind rfl rfl ⟨(by dsimp only [rm_Tx_same, rm_Tx_kind]; omega), (by dsimp only [rm_Tx_same, rm_Tx_kind]; omega)⟩ rfl (Nat.le_of_ble_eq_true rfl) ⟨Nat.zero_le _, Nat.zero_le _⟩ rfl d_Tx_same_2 (fun H locs hP hS => ?_)
  refine lv_istore (lv' := [(5, .int q1), (0, .ref (ad 12)), (1, .int x1), (2, .ref (ad 12)), (3, .int x3), (4, .int x4)]) hx hb d_Tx_same_5 hl (by decide) rfl (fun ls hl => ?_)
  refine lv_iload hx hb d_Tx_same_7 (lv_at hl 0 rfl) ?_
  refine lv_aload_n hx hb d_Tx_same_9 rfl (lv_at hl 3 rfl) ?_
  refine lv_iload_n hx hb d_Tx_same_10 rfl (lv_at hl 4 rfl) ?_
  obtain ⟨q2, hq2, h⟩ := o_bd_some h
  refine o_V (st1 := [.int q2, .int q1]) (w1 := (o_cw ad ca rt Sj T0 a0 Rd Pg Pt Mk Lk Ck Jd Ld Pr)) hE.1 C (c_Tx_kind_1 hE l x3 a0 Sj T0 Rd Pg Pt Mk Lk Ck Jd Ld Pr rt hq2) hP (hDD _ _ _ _ _ _ _ _ _ _ _ _ _) hS hl.1 rfl cw_12 k_5_64 k_4_50 k_4_51 k_1_2 k_4_52 hv_Tx_kind rfl rfl ⟨(by dsimp only [rm_Tx_same, rm_Tx_kind]; omega), (by dsimp only [rm_Tx_same, rm_Tx_kind]; omega)⟩ rfl (Nat.le_of_ble_eq_true rfl) ⟨Nat.zero_le _, Nat.zero_le _⟩ rfl d_Tx_same_11 (fun H locs hP hS => ?_)
  refine lv_icmp_ne (tgt := 24) hx hb d_Tx_same_14 (by decide) (fun c1 => ?_) (fun c1 => ?_)
  · replace h := o_ff c1 h
    refine lv_iconst (v := (0:Int32)) hx hb d_Tx_same_24 (by decide) ?_
    cases h
    exact o_rz (v := (0:Int32)) C o_nar0 hP hS d_Tx_same_25
  · replace h := o_tt c1 h
    refine lv_iload hx hb d_Tx_same_17 (lv_at hl 5 rfl) ?_
    refine lv_bipush (v := (40:Int32)) hx hb d_Tx_same_19 (by decide) ?_
    refine lv_icmp_le (tgt := 26) hx hb d_Tx_same_21 (by decide) (fun c2 => ?_) (fun c2 => ?_)
    · replace h := o_tt c2 h
      refine lv_iload hx hb d_Tx_same_26 (lv_at hl 0 rfl) ?_
      refine lv_iconst (v := (3:Int32)) hx hb d_Tx_same_28 (by decide) ?_
      refine lv_icmp_ne (tgt := 48) hx hb d_Tx_same_29 (by decide) (fun c3 => ?_) (fun c3 => ?_)
      · replace h := o_ff c3 h
        refine lv_iload hx hb d_Tx_same_48 (lv_at hl 0 rfl) ?_
        refine lv_iconst (v := (4:Int32)) hx hb d_Tx_same_50 (by decide) ?_
        refine lv_icmp_ne (tgt := 62) hx hb d_Tx_same_51 (by decide) (fun c4 => ?_) (fun c4 => ?_)
        · replace h := o_ff c4 h
          refine lv_aload_n hx hb d_Tx_same_62 rfl (lv_at hl 1 rfl) ?_
          refine lv_iload_n hx hb d_Tx_same_63 rfl (lv_at hl 2 rfl) ?_
          obtain ⟨q3, hq3, h⟩ := o_bd_some h
          refine o_V (st1 := [.int q3]) (w1 := (o_cw ad ca rt Sj T0 a0 Rd Pg Pt Mk Lk Ck Jd Ld Pr)) hE.1 C (c_Tx_size_1 hE l x1 a0 Sj T0 Rd Pg Pt Mk Lk Ck Jd Ld Pr rt hq3) hP (hDD _ _ _ _ _ _ _ _ _ _ _ _ _) hS hl.1 rfl cw_12 k_3_214 k_3_215 k_3_216 k_1_2 k_3_217 hv_Tx_size rfl rfl ⟨(by dsimp only [rm_Tx_same, rm_Tx_size]; omega), (by dsimp only [rm_Tx_same, rm_Tx_size]; omega)⟩ rfl (Nat.le_of_ble_eq_true rfl) ⟨Nat.zero_le _, Nat.zero_le _⟩ rfl d_Tx_same_64 (fun H locs hP hS => ?_)
          refine lv_aload_n hx hb d_Tx_same_67 rfl (lv_at hl 3 rfl) ?_
          refine lv_iload_n hx hb d_Tx_same_68 rfl (lv_at hl 4 rfl) ?_
          obtain ⟨q4, hq4, h⟩ := o_bd_some h
          refine o_V (st1 := [.int q4, .int q3]) (w1 := (o_cw ad ca rt Sj T0 a0 Rd Pg Pt Mk Lk Ck Jd Ld Pr)) hE.1 C (c_Tx_size_1 hE l x3 a0 Sj T0 Rd Pg Pt Mk Lk Ck Jd Ld Pr rt hq4) hP (hDD _ _ _ _ _ _ _ _ _ _ _ _ _) hS hl.1 rfl cw_12 k_3_214 k_3_215 k_3_216 k_1_2 k_3_217 hv_Tx_size rfl rfl ⟨(by dsimp only [rm_Tx_same, rm_Tx_size]; omega), (by dsimp only [rm_Tx_same, rm_Tx_size]; omega)⟩ rfl (Nat.le_of_ble_eq_true rfl) ⟨Nat.zero_le _, Nat.zero_le _⟩ rfl d_Tx_same_69 (fun H locs hP hS => ?_)
          refine lv_icmp_eq (tgt := 77) hx hb d_Tx_same_72 (by decide) (fun c5 => ?_) (fun c5 => ?_)
          · replace h := o_tt c5 h
            refine lv_aload_n hx hb d_Tx_same_77 rfl (lv_at hl 1 rfl) ?_
            refine lv_iload_n hx hb d_Tx_same_78 rfl (lv_at hl 2 rfl) ?_
            obtain ⟨q5, hq5, h⟩ := o_bd_some h
            refine o_V (st1 := [.int q5]) (w1 := (o_cw ad ca rt Sj T0 a0 Rd Pg Pt Mk Lk Ck Jd Ld Pr)) hE.1 C (c_Tx_firstChild_1 hE l x1 a0 Sj T0 Rd Pg Pt Mk Lk Ck Jd Ld Pr rt hq5) hP (hDD _ _ _ _ _ _ _ _ _ _ _ _ _) hS hl.1 rfl cw_12 k_3_210 k_3_211 k_3_212 k_1_2 k_3_213 hv_Tx_firstChild rfl rfl ⟨(by dsimp only [rm_Tx_same, rm_Tx_firstChild]; omega), (by dsimp only [rm_Tx_same, rm_Tx_firstChild]; omega)⟩ rfl (Nat.le_of_ble_eq_true rfl) ⟨Nat.zero_le _, Nat.zero_le _⟩ rfl d_Tx_same_79 (fun H locs hP hS => ?_)
            refine lv_istore (lv' := [(6, .int q5), (5, .int q1), (0, .ref (ad 12)), (1, .int x1), (2, .ref (ad 12)), (3, .int x3), (4, .int x4)]) hx hb d_Tx_same_82 hl (by decide) rfl (fun ls hl => ?_)
            refine lv_aload_n hx hb d_Tx_same_84 rfl (lv_at hl 4 rfl) ?_
            refine lv_iload_n hx hb d_Tx_same_85 rfl (lv_at hl 5 rfl) ?_
            obtain ⟨q6, hq6, h⟩ := o_bd_some h
            refine o_V (st1 := [.int q6]) (w1 := (o_cw ad ca rt Sj T0 a0 Rd Pg Pt Mk Lk Ck Jd Ld Pr)) hE.1 C (c_Tx_firstChild_1 hE l x3 a0 Sj T0 Rd Pg Pt Mk Lk Ck Jd Ld Pr rt hq6) hP (hDD _ _ _ _ _ _ _ _ _ _ _ _ _) hS hl.1 rfl cw_12 k_3_210 k_3_211 k_3_212 k_1_2 k_3_213 hv_Tx_firstChild rfl rfl ⟨(by dsimp only [rm_Tx_same, rm_Tx_firstChild]; omega), (by dsimp only [rm_Tx_same, rm_Tx_firstChild]; omega)⟩ rfl (Nat.le_of_ble_eq_true rfl) ⟨Nat.zero_le _, Nat.zero_le _⟩ rfl d_Tx_same_86 (fun H locs hP hS => ?_)
            refine lv_istore (lv' := [(7, .int q6), (6, .int q5), (5, .int q1), (0, .ref (ad 12)), (1, .int x1), (2, .ref (ad 12)), (3, .int x3), (4, .int x4)]) hx hb d_Tx_same_89 hl (by decide) rfl (fun ls hl => ?_)
            refine lv_iconst (v := (0:Int32)) hx hb d_Tx_same_91 (by decide) ?_
            refine lv_istore (lv' := [(8, .int (0:Int32)), (7, .int q6), (6, .int q5), (5, .int q1), (0, .ref (ad 12)), (1, .int x1), (2, .ref (ad 12)), (3, .int x3), (4, .int x4)]) hx hb d_Tx_same_92 hl (by decide) rfl (fun ls hl => ?_)
            obtain ⟨q12, hq12, h⟩ := o_bd_some h
            refine o_sim2 (AH := fun zz => o_At p l e (rm_Tx_same (d + 1)) s m _ below meth c _ o_cls D A 10 94 [] (o_cw ad ca rt Sj T0 a0 Rd Pg Pt Mk Lk Ck Jd Ld Pr) [(0, .ref (ad 12)), (1, .int x1), (2, .ref (ad 12)), (3, .int x3), (4, .int x4), (5, .int q1), (6, .int zz.1), (7, .int zz.2.1), (8, .int zz.2.2)]) (AX := fun qq => if qq.1 = 1 then o_At p l e (rm_Tx_same (d + 1)) s m _ below meth c _ o_cls D A 10 149 [] (o_cw ad ca rt Sj T0 a0 Rd Pg Pt Mk Lk Ck Jd Ld Pr) [] else o_At p l e (rm_Tx_same (d + 1)) s m _ below meth c _ o_cls D A 10 173 [] (o_cw ad ca rt Sj T0 a0 Rd Pg Pt Mk Lk Ck Jd Ld Pr) []) (fun zz qq h h0 h1 => w_Tx_same_b94_11 hE C hDD d rec hrec n x1 x3 x4 q1 a0 Sj T0 Rd Pg Pt Mk Lk Ck Jd Ld Pr rt zz qq h h0 h1) n _ q12 hq12 ?_ _ _ _ hP hS (lv_sub hl [4, 5, 6, 7, 8, 3, 2, 1, 0] rfl)
            by_cases c10 : q12.1 = 1
            · replace h := o_tt c10 h
              refine o_ip c10 ?_
              intro H locs ls hP hS hl
              refine lv_iconst (v := (0:Int32)) hx hb d_Tx_same_149 (by decide) ?_
              cases h
              exact o_rz (v := (0:Int32)) C o_nar0 hP hS d_Tx_same_150
            replace h := o_ff c10 h
            refine o_in_ c10 ?_
            intro H locs ls hP hS hl
            refine lv_iconst (v := (1:Int32)) hx hb d_Tx_same_173 (by decide) ?_
            cases h
            exact o_rz (v := (1:Int32)) C o_nar1 hP hS d_Tx_same_174
          · replace h := o_ff c5 h
            refine lv_iconst (v := (0:Int32)) hx hb d_Tx_same_75 (by decide) ?_
            cases h
            exact o_rz (v := (0:Int32)) C o_nar0 hP hS d_Tx_same_76
        · replace h := o_tt c4 h
          refine lv_aload_n hx hb d_Tx_same_54 rfl (lv_at hl 1 rfl) ?_
          refine lv_iload_n hx hb d_Tx_same_55 rfl (lv_at hl 2 rfl) ?_
          refine lv_aload_n hx hb d_Tx_same_56 rfl (lv_at hl 3 rfl) ?_
          refine lv_iload_n hx hb d_Tx_same_57 rfl (lv_at hl 4 rfl) ?_
          obtain ⟨q13, hq13, h⟩ := o_bd_some h
          refine o_S (st1 := [.int q13]) (w1 := (o_cw ad ca rt Sj T0 a0 Rd Pg Pt Mk Lk Ck Jd Ld Pr)) hE.1 C (c_Tx_sameString_11 hE l n x1 x3 a0 Sj T0 Rd Pg Pt Mk Lk Ck Jd Ld Pr rt hq13) hP (hDD _ _ _ _ _ _ _ _ _ _ _ _ _) hS hl.1 k_3_218 k_3_219 k_1_2 k_3_220 hs_Tx_sameString rfl rfl ⟨(by dsimp only [rm_Tx_same, rm_Tx_sameString]; omega), (by dsimp only [rm_Tx_same, rm_Tx_sameString]; omega)⟩ rfl (Nat.le_of_ble_eq_true rfl) ⟨Nat.zero_le _, Nat.zero_le _⟩ rfl d_Tx_same_58 (fun H locs hP hS => ?_)
          obtain ⟨g11, h⟩ := o_gd_some h
          cases h
          exact o_rz C (o_zb_nar g11) hP hS d_Tx_same_61
      · replace h := o_tt c3 h
        refine lv_aload_n hx hb d_Tx_same_32 rfl (lv_at hl 1 rfl) ?_
        refine lv_iload_n hx hb d_Tx_same_33 rfl (lv_at hl 2 rfl) ?_
        refine lv_aload_n hx hb d_Tx_same_34 rfl (lv_at hl 3 rfl) ?_
        refine lv_iload_n hx hb d_Tx_same_35 rfl (lv_at hl 4 rfl) ?_
        obtain ⟨q14, hq14, h⟩ := o_bd_some h
        refine o_S (st1 := [.int q14]) (w1 := (o_cw ad ca rt Sj T0 a0 Rd Pg Pt Mk Lk Ck Jd Ld Pr)) hE.1 C (c_Tx_compare_11 hE l n x1 x3 a0 Sj T0 Rd Pg Pt Mk Lk Ck Jd Ld Pr rt hq14) hP (hDD _ _ _ _ _ _ _ _ _ _ _ _ _) hS hl.1 k_6_184 k_6_185 k_1_2 k_6_186 hs_Tx_compare rfl rfl ⟨(by dsimp only [rm_Tx_same, rm_Tx_compare]; omega), (by dsimp only [rm_Tx_same, rm_Tx_compare]; omega)⟩ rfl (Nat.le_of_ble_eq_true rfl) ⟨Nat.zero_le _, Nat.zero_le _⟩ rfl d_Tx_same_36 (fun H locs hP hS => ?_)
        refine lv_if_ne (tgt := 46) hx hb d_Tx_same_39 (by decide) (fun c12 => ?_) (fun c12 => ?_)
        · replace h := o_ff c12 h
          refine lv_iconst (v := (0:Int32)) hx hb d_Tx_same_46 (by decide) ?_
          cases h
          exact o_rz (v := (0:Int32)) C o_nar0 hP hS d_Tx_same_47
        · replace h := o_tt c12 h
          refine lv_iconst (v := (1:Int32)) hx hb d_Tx_same_42 (by decide) ?_
          refine lv_goto (tgt := 47) hx hb d_Tx_same_43 (by decide) ?_
          cases h
          exact o_rz (v := (1:Int32)) C o_nar1 hP hS d_Tx_same_47
    · replace h := o_ff c2 h
      refine lv_iconst (v := (0:Int32)) hx hb d_Tx_same_24 (by decide) ?_
      cases h
      exact o_rz (v := (0:Int32)) C o_nar0 hP hS d_Tx_same_25
set_option maxHeartbeats 4000000 in
set_option maxRecDepth 100000 in
theorem c_Tx_same_11 {E : (Nat → Prop) → State → Heap → Prop} {D : va_G} {ad kd sd vd xd : Nat → Nat} {ca : Nat → ClassId} (hE : o_EK E kd sd vd xd) (l : Launch) (n : Nat) (d : Nat) (x1 : Int32) (x3 : Int32) (x4 : Int32) (a0 : STx) (Sj : SSJ) (T0 : STx) (Rd : SRd) (Pg : SPg) (Pt : SPt) (Mk : SMk) (Lk : SLk) (Ck : SCk) (Jd : SJd) (Ld : SLd) (Pr : SPr) (rt : Nat) {r : Int32} (h : m_Tx_same n d x1 x3 x4 a0 a0 = some r) : o_Cn E l D o_cls (o_tys ca) y_Tx_same cc_Tx_same (rm_Tx_same d) [.ref (ad 12), .int x1, .ref (ad 12), .int x3, .int x4] (o_cw ad ca rt Sj T0 a0 Rd Pg Pt Mk Lk Ck Jd Ld Pr) (o_cw ad ca rt Sj T0 a0 Rd Pg Pt Mk Lk Ck Jd Ld Pr) (some (.int r)) := by
  induction d generalizing x1 x3 x4 a0 Sj T0 Rd Pg Pt Mk Lk Ck Jd Ld Pr rt r with
  | zero => cases h
  | succ d ih =>
    exact c_Tx_same_11_F hE l n d (m_Tx_same n d) (fun x1 x3 x4 a0 Sj T0 Rd Pg Pt Mk Lk Ck Jd Ld Pr rt r h => ih x1 x3 x4 a0 Sj T0 Rd Pg Pt Mk Lk Ck Jd Ld Pr rt h) _ _ _ _ _ _ _ _ _ _ _ _ _ _ _ _ h
set_option maxHeartbeats 4000000 in
set_option maxRecDepth 100000 in
theorem w_Jd_allDiffer_b38 {E : (Nat → Prop) → State → Heap → Prop} {p : Program} {l : Launch} {e : Env} {s : State} {m : MethodId} {args : Array Value} {below : List Frame} {meth : Method} {c : Code} {D : va_G} {ad kd sd vd xd : Nat → Nat} {ca : Nat → ClassId} {A : Nat → Prop} {Q : State → Prop} (hE : o_EK E kd sd vd xd) (C : o_Cx E p s m args meth c D o_cls (o_tys ca) "SchemaJudge$Judge" b_Jd_allDiffer (some .boolean) 6 cc_Jd_allDiffer A) (hDD : ∀ (rt : Nat) (Sj : SSJ) (T0 : STx) (T1 : STx) (Rd : SRd) (Pg : SPg) (Pt : SPt) (Mk : SMk) (Lk : SLk) (Ck : SCk) (Jd : SJd) (Ld : SLd) (Pr : SPr), va_D A (o_cw ad ca rt Sj T0 T1 Rd Pg Pt Mk Lk Ck Jd Ld Pr)) (n : Nat) (u38_x1 : Int32) (u38_x2 : Int32) (u38_x3 : Int32) (u38_T1 : STx) (u38_Sj : SSJ) (u38_T0 : STx) (u38_Rd : SRd) (u38_Pg : SPg) (u38_Pt : SPt) (u38_Mk : SMk) (u38_Lk : SLk) (u38_Ck : SCk) (u38_Jd : SJd) (u38_Ld : SLd) (u38_Pr : SPr) (u38_rt : Nat) (z : Int32 × Int32) (q : Nat × Int32 × Int32) (h : m_Jd_allDiffer_b38 n u38_x1 u38_x2 u38_x3 u38_T1 z = some q) (h0 : q.1 = 0 → o_At p l e rm_Jd_allDiffer s m args below meth c Q o_cls D A 6 38 [] (o_cw ad ca u38_rt u38_Sj u38_T0 u38_T1 u38_Rd u38_Pg u38_Pt u38_Mk u38_Lk u38_Ck u38_Jd u38_Ld u38_Pr) [(0, .ref (ad 49)), (1, .int u38_x1), (2, .int u38_x2), (3, .int u38_x3), (4, .int q.2.1), (5, .int q.2.2)]) (h1 : q.1 ≠ 0 → (if q.1 = 1 then o_At p l e rm_Jd_allDiffer s m args below meth c Q o_cls D A 6 69 [] (o_cw ad ca u38_rt u38_Sj u38_T0 u38_T1 u38_Rd u38_Pg u38_Pt u38_Mk u38_Lk u38_Ck u38_Jd u38_Ld u38_Pr) [] else o_At p l e rm_Jd_allDiffer s m args below meth c Q o_cls D A 6 88 [] (o_cw ad ca u38_rt u38_Sj u38_T0 u38_T1 u38_Rd u38_Pg u38_Pt u38_Mk u38_Lk u38_Ck u38_Jd u38_Ld u38_Pr) [(0, .ref (ad 49)), (1, .int u38_x1), (2, .int u38_x2), (3, .int u38_x3)])) : o_At p l e rm_Jd_allDiffer s m args below meth c Q o_cls D A 6 38 [] (o_cw ad ca u38_rt u38_Sj u38_T0 u38_T1 u38_Rd u38_Pg u38_Pt u38_Mk u38_Lk u38_Ck u38_Jd u38_Ld u38_Pr) [(0, .ref (ad 49)), (1, .int u38_x1), (2, .int u38_x2), (3, .int u38_x3), (4, .int z.1), (5, .int z.2)] := by
  unfold m_Jd_allDiffer_b38 at h
  intro H locs ls hP hS hl
  have C0 := C
  obtain ⟨hx, hb, -, -, -, hown, hts, hK, -, -⟩ := C0
  refine lv_iload hx hb d_Jd_allDiffer_38 (lv_at hl 5 rfl) ?_
  refine lv_aload_n hx hb d_Jd_allDiffer_40 rfl (lv_at hl 0 rfl) ?_
  refine o_get (v := .ref (ad 12)) C in_Jd hP 49 cw_49 rfl 2 (by decide) k_2_76 rfl rfl d_Jd_allDiffer_41 ?_
  refine lv_iload_n hx hb d_Jd_allDiffer_44 rfl (lv_at hl 1 rfl) ?_
  obtain ⟨q4, hq4, h⟩ := o_bd_some h
  refine o_V (st1 := [.int q4, .int z.2]) (w1 := (o_cw ad ca u38_rt u38_Sj u38_T0 u38_T1 u38_Rd u38_Pg u38_Pt u38_Mk u38_Lk u38_Ck u38_Jd u38_Ld u38_Pr)) hE.1 C (c_Tx_size_1 hE l u38_x1 u38_T1 u38_Sj u38_T0 u38_Rd u38_Pg u38_Pt u38_Mk u38_Lk u38_Ck u38_Jd u38_Ld u38_Pr u38_rt hq4) hP (hDD _ _ _ _ _ _ _ _ _ _ _ _ _) hS hl.1 rfl cw_12 k_6_26 k_3_215 k_3_216 k_1_2 k_3_217 hv_Tx_size rfl rfl ⟨(Nat.le_of_ble_eq_true rfl), (Nat.le_of_ble_eq_true rfl)⟩ rfl (Nat.le_of_ble_eq_true rfl) ⟨Nat.zero_le _, Nat.zero_le _⟩ rfl d_Jd_allDiffer_45 (fun H locs hP hS => ?_)
  refine lv_icmp_ge (tgt := 88) hx hb d_Jd_allDiffer_48 (by decide) (fun c2 => ?_) (fun c2 => ?_)
  · replace h := o_tt c2 h
    cases h
    exact h1 (Nat.succ_ne_zero 1) _ _ _ hP hS (lv_sub hl [0, 1, 2, 3] rfl)
  · replace h := o_ff c2 h
    refine lv_aload_n hx hb d_Jd_allDiffer_51 rfl (lv_at hl 0 rfl) ?_
    refine o_get (v := .ref (ad 12)) C in_Jd hP 49 cw_49 rfl 2 (by decide) k_2_76 rfl rfl d_Jd_allDiffer_52 ?_
    refine lv_iload_n hx hb d_Jd_allDiffer_55 rfl (lv_at hl 2 rfl) ?_
    refine lv_aload_n hx hb d_Jd_allDiffer_56 rfl (lv_at hl 0 rfl) ?_
    refine o_get (v := .ref (ad 12)) C in_Jd hP 49 cw_49 rfl 2 (by decide) k_2_76 rfl rfl d_Jd_allDiffer_57 ?_
    refine lv_iload hx hb d_Jd_allDiffer_60 (lv_at hl 4 rfl) ?_
    refine lv_iconst (v := (0:Int32)) hx hb d_Jd_allDiffer_62 (by decide) ?_
    obtain ⟨q5, hq5, h⟩ := o_bd_some h
    refine o_S (st1 := [.int q5]) (w1 := (o_cw ad ca u38_rt u38_Sj u38_T0 u38_T1 u38_Rd u38_Pg u38_Pt u38_Mk u38_Lk u38_Ck u38_Jd u38_Ld u38_Pr)) hE.1 C (c_Tx_same_11 hE l n 43 u38_x2 z.1 (0:Int32) u38_T1 u38_Sj u38_T0 u38_Rd u38_Pg u38_Pt u38_Mk u38_Lk u38_Ck u38_Jd u38_Ld u38_Pr u38_rt hq5) hP (hDD _ _ _ _ _ _ _ _ _ _ _ _ _) hS hl.1 k_6_181 k_6_182 k_1_2 k_6_183 hs_Tx_same rfl rfl ⟨(Nat.le_of_ble_eq_true rfl), (Nat.le_of_ble_eq_true rfl)⟩ rfl (Nat.le_of_ble_eq_true rfl) ⟨Nat.zero_le _, Nat.zero_le _⟩ rfl d_Jd_allDiffer_63 (fun H locs hP hS => ?_)
    refine lv_if_eq (tgt := 71) hx hb d_Jd_allDiffer_66 (by decide) (fun c3 => ?_) (fun c3 => ?_)
    · replace h := o_tt c3 h
      refine lv_aload_n hx hb d_Jd_allDiffer_71 rfl (lv_at hl 0 rfl) ?_
      refine o_get (v := .ref (ad 12)) C in_Jd hP 49 cw_49 rfl 2 (by decide) k_2_76 rfl rfl d_Jd_allDiffer_72 ?_
      refine lv_iload hx hb d_Jd_allDiffer_75 (lv_at hl 4 rfl) ?_
      obtain ⟨q6, hq6, h⟩ := o_bd_some h
      refine o_V (st1 := [.int q6]) (w1 := (o_cw ad ca u38_rt u38_Sj u38_T0 u38_T1 u38_Rd u38_Pg u38_Pt u38_Mk u38_Lk u38_Ck u38_Jd u38_Ld u38_Pr)) hE.1 C (c_Tx_nextChild_1 hE l z.1 u38_T1 u38_Sj u38_T0 u38_Rd u38_Pg u38_Pt u38_Mk u38_Lk u38_Ck u38_Jd u38_Ld u38_Pr u38_rt hq6) hP (hDD _ _ _ _ _ _ _ _ _ _ _ _ _) hS hl.1 rfl cw_12 k_6_28 k_3_222 k_3_223 k_1_2 k_3_224 hv_Tx_nextChild rfl rfl ⟨(Nat.le_of_ble_eq_true rfl), (Nat.le_of_ble_eq_true rfl)⟩ rfl (Nat.le_of_ble_eq_true rfl) ⟨Nat.zero_le _, Nat.zero_le _⟩ rfl d_Jd_allDiffer_77 (fun H locs hP hS => ?_)
      refine lv_istore (lv' := [(4, .int q6), (0, .ref (ad 49)), (1, .int u38_x1), (2, .int u38_x2), (3, .int u38_x3), (5, .int z.2)]) hx hb d_Jd_allDiffer_80 hl (by decide) rfl (fun ls hl => ?_)
      obtain ⟨x5_82, ex5_82⟩ : ∃ y : Int32, y = z.2 + (1:Int32) := ⟨_, rfl⟩
      replace h := o_nm_at ex5_82 h
      refine lv_iinc (v := x5_82) (lv' := [(5, .int x5_82), (4, .int q6), (0, .ref (ad 49)), (1, .int u38_x1), (2, .int u38_x2), (3, .int u38_x3)]) hx hb d_Jd_allDiffer_82 hl (k := 5) rfl (by rw [ex5_82]; rfl) (by decide) rfl (fun ls hl => ?_)
      refine lv_goto (tgt := 38) hx hb d_Jd_allDiffer_85 (by decide) ?_
      cases h
      exact h0 rfl _ _ _ hP hS (lv_sub hl [2, 3, 4, 5, 1, 0] rfl)
    · replace h := o_ff c3 h
      cases h
      exact h1 (Nat.succ_ne_zero 0) _ _ _ hP hS (lv_sub hl [] rfl)
set_option maxHeartbeats 4000000 in
set_option maxRecDepth 100000 in
theorem w_Jd_allDiffer_b11 {E : (Nat → Prop) → State → Heap → Prop} {p : Program} {l : Launch} {e : Env} {s : State} {m : MethodId} {args : Array Value} {below : List Frame} {meth : Method} {c : Code} {D : va_G} {ad kd sd vd xd : Nat → Nat} {ca : Nat → ClassId} {A : Nat → Prop} {Q : State → Prop} (hE : o_EK E kd sd vd xd) (C : o_Cx E p s m args meth c D o_cls (o_tys ca) "SchemaJudge$Judge" b_Jd_allDiffer (some .boolean) 6 cc_Jd_allDiffer A) (hDD : ∀ (rt : Nat) (Sj : SSJ) (T0 : STx) (T1 : STx) (Rd : SRd) (Pg : SPg) (Pt : SPt) (Mk : SMk) (Lk : SLk) (Ck : SCk) (Jd : SJd) (Ld : SLd) (Pr : SPr), va_D A (o_cw ad ca rt Sj T0 T1 Rd Pg Pt Mk Lk Ck Jd Ld Pr)) (n : Nat) (u11_x1 : Int32) (u11_T1 : STx) (u11_Sj : SSJ) (u11_T0 : STx) (u11_Rd : SRd) (u11_Pg : SPg) (u11_Pt : SPt) (u11_Mk : SMk) (u11_Lk : SLk) (u11_Ck : SCk) (u11_Jd : SJd) (u11_Ld : SLd) (u11_Pr : SPr) (u11_rt : Nat) (z : Int32 × Int32) (q : Nat × Int32 × Int32) (h : m_Jd_allDiffer_b11 n u11_x1 u11_T1 z = some q) (h0 : q.1 = 0 → o_At p l e rm_Jd_allDiffer s m args below meth c Q o_cls D A 6 11 [] (o_cw ad ca u11_rt u11_Sj u11_T0 u11_T1 u11_Rd u11_Pg u11_Pt u11_Mk u11_Lk u11_Ck u11_Jd u11_Ld u11_Pr) [(0, .ref (ad 49)), (1, .int u11_x1), (2, .int q.2.1), (3, .int q.2.2)]) (h1 : q.1 ≠ 0 → (if q.1 = 1 then o_At p l e rm_Jd_allDiffer s m args below meth c Q o_cls D A 6 69 [] (o_cw ad ca u11_rt u11_Sj u11_T0 u11_T1 u11_Rd u11_Pg u11_Pt u11_Mk u11_Lk u11_Ck u11_Jd u11_Ld u11_Pr) [] else o_At p l e rm_Jd_allDiffer s m args below meth c Q o_cls D A 6 103 [] (o_cw ad ca u11_rt u11_Sj u11_T0 u11_T1 u11_Rd u11_Pg u11_Pt u11_Mk u11_Lk u11_Ck u11_Jd u11_Ld u11_Pr) [])) : o_At p l e rm_Jd_allDiffer s m args below meth c Q o_cls D A 6 11 [] (o_cw ad ca u11_rt u11_Sj u11_T0 u11_T1 u11_Rd u11_Pg u11_Pt u11_Mk u11_Lk u11_Ck u11_Jd u11_Ld u11_Pr) [(0, .ref (ad 49)), (1, .int u11_x1), (2, .int z.1), (3, .int z.2)] := by
  unfold m_Jd_allDiffer_b11 at h
  intro H locs ls hP hS hl
  have C0 := C
  obtain ⟨hx, hb, -, -, -, hown, hts, hK, -, -⟩ := C0
  refine lv_iload_n hx hb d_Jd_allDiffer_11 rfl (lv_at hl 3 rfl) ?_
  refine lv_aload_n hx hb d_Jd_allDiffer_12 rfl (lv_at hl 0 rfl) ?_
  refine o_get (v := .ref (ad 12)) C in_Jd hP 49 cw_49 rfl 2 (by decide) k_2_76 rfl rfl d_Jd_allDiffer_13 ?_
  refine lv_iload_n hx hb d_Jd_allDiffer_16 rfl (lv_at hl 1 rfl) ?_
  obtain ⟨q2, hq2, h⟩ := o_bd_some h
  refine o_V (st1 := [.int q2, .int z.2]) (w1 := (o_cw ad ca u11_rt u11_Sj u11_T0 u11_T1 u11_Rd u11_Pg u11_Pt u11_Mk u11_Lk u11_Ck u11_Jd u11_Ld u11_Pr)) hE.1 C (c_Tx_size_1 hE l u11_x1 u11_T1 u11_Sj u11_T0 u11_Rd u11_Pg u11_Pt u11_Mk u11_Lk u11_Ck u11_Jd u11_Ld u11_Pr u11_rt hq2) hP (hDD _ _ _ _ _ _ _ _ _ _ _ _ _) hS hl.1 rfl cw_12 k_6_26 k_3_215 k_3_216 k_1_2 k_3_217 hv_Tx_size rfl rfl ⟨(Nat.le_of_ble_eq_true rfl), (Nat.le_of_ble_eq_true rfl)⟩ rfl (Nat.le_of_ble_eq_true rfl) ⟨Nat.zero_le _, Nat.zero_le _⟩ rfl d_Jd_allDiffer_17 (fun H locs hP hS => ?_)
  refine lv_icmp_ge (tgt := 103) hx hb d_Jd_allDiffer_20 (by decide) (fun c1 => ?_) (fun c1 => ?_)
  · replace h := o_tt c1 h
    cases h
    exact h1 (Nat.succ_ne_zero 1) _ _ _ hP hS (lv_sub hl [] rfl)
  · replace h := o_ff c1 h
    refine lv_aload_n hx hb d_Jd_allDiffer_23 rfl (lv_at hl 0 rfl) ?_
    refine o_get (v := .ref (ad 12)) C in_Jd hP 49 cw_49 rfl 2 (by decide) k_2_76 rfl rfl d_Jd_allDiffer_24 ?_
    refine lv_iload_n hx hb d_Jd_allDiffer_27 rfl (lv_at hl 2 rfl) ?_
    obtain ⟨q3, hq3, h⟩ := o_bd_some h
    refine o_V (st1 := [.int q3]) (w1 := (o_cw ad ca u11_rt u11_Sj u11_T0 u11_T1 u11_Rd u11_Pg u11_Pt u11_Mk u11_Lk u11_Ck u11_Jd u11_Ld u11_Pr)) hE.1 C (c_Tx_nextChild_1 hE l z.1 u11_T1 u11_Sj u11_T0 u11_Rd u11_Pg u11_Pt u11_Mk u11_Lk u11_Ck u11_Jd u11_Ld u11_Pr u11_rt hq3) hP (hDD _ _ _ _ _ _ _ _ _ _ _ _ _) hS hl.1 rfl cw_12 k_6_28 k_3_222 k_3_223 k_1_2 k_3_224 hv_Tx_nextChild rfl rfl ⟨(Nat.le_of_ble_eq_true rfl), (Nat.le_of_ble_eq_true rfl)⟩ rfl (Nat.le_of_ble_eq_true rfl) ⟨Nat.zero_le _, Nat.zero_le _⟩ rfl d_Jd_allDiffer_28 (fun H locs hP hS => ?_)
    refine lv_istore (lv' := [(4, .int q3), (0, .ref (ad 49)), (1, .int u11_x1), (2, .int z.1), (3, .int z.2)]) hx hb d_Jd_allDiffer_31 hl (by decide) rfl (fun ls hl => ?_)
    refine lv_iload_n hx hb d_Jd_allDiffer_33 rfl (lv_at hl 4 rfl) ?_
    refine lv_iconst (v := (1:Int32)) hx hb d_Jd_allDiffer_34 (by decide) ?_
    refine lv_iadd hx hb d_Jd_allDiffer_35 ?_
    refine lv_topi (fun x5_36 ex5_36 => ?_)
    replace h := o_nm_at ex5_36 h
    refine lv_istore (lv' := [(5, .int x5_36), (4, .int q3), (0, .ref (ad 49)), (1, .int u11_x1), (2, .int z.1), (3, .int z.2)]) hx hb d_Jd_allDiffer_36 hl (by decide) rfl (fun ls hl => ?_)
    obtain ⟨q7, hq7, h⟩ := o_bd_some h
    refine o_sim2 (AH := fun zz => o_At p l e rm_Jd_allDiffer s m args below meth c _ o_cls D A 6 38 [] (o_cw ad ca u11_rt u11_Sj u11_T0 u11_T1 u11_Rd u11_Pg u11_Pt u11_Mk u11_Lk u11_Ck u11_Jd u11_Ld u11_Pr) [(0, .ref (ad 49)), (1, .int u11_x1), (2, .int z.1), (3, .int z.2), (4, .int zz.1), (5, .int zz.2)]) (AX := fun qq => if qq.1 = 1 then o_At p l e rm_Jd_allDiffer s m args below meth c _ o_cls D A 6 69 [] (o_cw ad ca u11_rt u11_Sj u11_T0 u11_T1 u11_Rd u11_Pg u11_Pt u11_Mk u11_Lk u11_Ck u11_Jd u11_Ld u11_Pr) [] else o_At p l e rm_Jd_allDiffer s m args below meth c _ o_cls D A 6 88 [] (o_cw ad ca u11_rt u11_Sj u11_T0 u11_T1 u11_Rd u11_Pg u11_Pt u11_Mk u11_Lk u11_Ck u11_Jd u11_Ld u11_Pr) [(0, .ref (ad 49)), (1, .int u11_x1), (2, .int z.1), (3, .int z.2)]) (fun zz qq h h0 h1 => w_Jd_allDiffer_b38 hE C hDD n u11_x1 z.1 z.2 u11_T1 u11_Sj u11_T0 u11_Rd u11_Pg u11_Pt u11_Mk u11_Lk u11_Ck u11_Jd u11_Ld u11_Pr u11_rt zz qq h h0 h1) n _ q7 hq7 ?_ _ _ _ hP hS (lv_sub hl [2, 3, 4, 5, 1, 0] rfl)
    by_cases c4 : q7.1 = 1
    · replace h := o_tt c4 h
      refine o_ip c4 ?_
      intro H locs ls hP hS hl
      cases h
      exact h1 (Nat.succ_ne_zero 0) _ _ _ hP hS (lv_sub hl [] rfl)
    replace h := o_ff c4 h
    refine o_in_ c4 ?_
    intro H locs ls hP hS hl
    refine lv_aload_n hx hb d_Jd_allDiffer_88 rfl (lv_at hl 0 rfl) ?_
    refine o_get (v := .ref (ad 12)) C in_Jd hP 49 cw_49 rfl 2 (by decide) k_2_76 rfl rfl d_Jd_allDiffer_89 ?_
    refine lv_iload_n hx hb d_Jd_allDiffer_92 rfl (lv_at hl 2 rfl) ?_
    obtain ⟨q8, hq8, h⟩ := o_bd_some h
    refine o_V (st1 := [.int q8]) (w1 := (o_cw ad ca u11_rt u11_Sj u11_T0 u11_T1 u11_Rd u11_Pg u11_Pt u11_Mk u11_Lk u11_Ck u11_Jd u11_Ld u11_Pr)) hE.1 C (c_Tx_nextChild_1 hE l z.1 u11_T1 u11_Sj u11_T0 u11_Rd u11_Pg u11_Pt u11_Mk u11_Lk u11_Ck u11_Jd u11_Ld u11_Pr u11_rt hq8) hP (hDD _ _ _ _ _ _ _ _ _ _ _ _ _) hS hl.1 rfl cw_12 k_6_28 k_3_222 k_3_223 k_1_2 k_3_224 hv_Tx_nextChild rfl rfl ⟨(Nat.le_of_ble_eq_true rfl), (Nat.le_of_ble_eq_true rfl)⟩ rfl (Nat.le_of_ble_eq_true rfl) ⟨Nat.zero_le _, Nat.zero_le _⟩ rfl d_Jd_allDiffer_93 (fun H locs hP hS => ?_)
    refine lv_istore_n (lv' := [(2, .int q8), (0, .ref (ad 49)), (1, .int u11_x1), (3, .int z.2)]) hx hb d_Jd_allDiffer_96 rfl hl (by decide) rfl (fun ls hl => ?_)
    obtain ⟨x3_97, ex3_97⟩ : ∃ y : Int32, y = z.2 + (1:Int32) := ⟨_, rfl⟩
    replace h := o_nm_at ex3_97 h
    refine lv_iinc (v := x3_97) (lv' := [(3, .int x3_97), (2, .int q8), (0, .ref (ad 49)), (1, .int u11_x1)]) hx hb d_Jd_allDiffer_97 hl (k := 3) rfl (by rw [ex3_97]; rfl) (by decide) rfl (fun ls hl => ?_)
    refine lv_goto (tgt := 11) hx hb d_Jd_allDiffer_100 (by decide) ?_
    cases h
    exact h0 rfl _ _ _ hP hS (lv_sub hl [2, 3, 1, 0] rfl)
set_option maxHeartbeats 4000000 in
set_option maxRecDepth 100000 in
theorem c_Jd_allDiffer {E : (Nat → Prop) → State → Heap → Prop} {D : va_G} {ad kd sd vd xd : Nat → Nat} {ca : Nat → ClassId} (hE : o_EK E kd sd vd xd) (l : Launch) (n : Nat) (x1 : Int32) (T1 : STx) (Sj : SSJ) (T0 : STx) (Rd : SRd) (Pg : SPg) (Pt : SPt) (Mk : SMk) (Lk : SLk) (Ck : SCk) (Jd : SJd) (Ld : SLd) (Pr : SPr) (rt : Nat) {r : Int32} (h : m_Jd_allDiffer n x1 T1 = some r) : o_Cn E l D o_cls (o_tys ca) y_Jd_allDiffer cc_Jd_allDiffer rm_Jd_allDiffer [.ref (ad 49), .int x1] (o_cw ad ca rt Sj T0 T1 Rd Pg Pt Mk Lk Ck Jd Ld Pr) (o_cw ad ca rt Sj T0 T1 Rd Pg Pt Mk Lk Ck Jd Ld Pr) (some (.int r)) := by
  refine o_Cn_of (by decide) (Nat.le_of_ble_eq_true rfl) ?_
  intro p e s m below meth c A ls C hD hP hS hl
  have hDD : ∀ (rt : Nat) (Sj : SSJ) (T0 : STx) (T1 : STx) (Rd : SRd) (Pg : SPg) (Pt : SPt) (Mk : SMk) (Lk : SLk) (Ck : SCk) (Jd : SJd) (Ld : SLd) (Pr : SPr), va_D A (o_cw ad ca rt Sj T0 T1 Rd Pg Pt Mk Lk Ck Jd Ld Pr) := fun _ _ _ _ _ _ _ _ _ _ _ _ _ => o_D_map hD rfl
  have hl : lv_has ls 6 [(0, .ref (ad 49)), (1, .int x1)] := hl
  unfold m_Jd_allDiffer at h
  have C0 := C
  obtain ⟨hx, hb, -, -, -, hown, hts, hK, -, -⟩ := C0
  refine lv_aload_n hx hb d_Jd_allDiffer_0 rfl (lv_at hl 0 rfl) ?_
  refine o_get (v := .ref (ad 12)) C in_Jd hP 49 cw_49 rfl 2 (by decide) k_2_76 rfl rfl d_Jd_allDiffer_1 ?_
  refine lv_iload_n hx hb d_Jd_allDiffer_4 rfl (lv_at hl 1 rfl) ?_
  obtain ⟨q1, hq1, h⟩ := o_bd_some h
  refine o_V (st1 := [.int q1]) (w1 := (o_cw ad ca rt Sj T0 T1 Rd Pg Pt Mk Lk Ck Jd Ld Pr)) hE.1 C (c_Tx_firstChild_1 hE l x1 T1 Sj T0 Rd Pg Pt Mk Lk Ck Jd Ld Pr rt hq1) hP (hDD _ _ _ _ _ _ _ _ _ _ _ _ _) hS hl.1 rfl cw_12 k_6_25 k_3_211 k_3_212 k_1_2 k_3_213 hv_Tx_firstChild rfl rfl ⟨(Nat.le_of_ble_eq_true rfl), (Nat.le_of_ble_eq_true rfl)⟩ rfl (Nat.le_of_ble_eq_true rfl) ⟨Nat.zero_le _, Nat.zero_le _⟩ rfl d_Jd_allDiffer_5 (fun H locs hP hS => ?_)
  refine lv_istore_n (lv' := [(2, .int q1), (0, .ref (ad 49)), (1, .int x1)]) hx hb d_Jd_allDiffer_8 rfl hl (by decide) rfl (fun ls hl => ?_)
  refine lv_iconst (v := (0:Int32)) hx hb d_Jd_allDiffer_9 (by decide) ?_
  refine lv_istore_n (lv' := [(3, .int (0:Int32)), (2, .int q1), (0, .ref (ad 49)), (1, .int x1)]) hx hb d_Jd_allDiffer_10 rfl hl (by decide) rfl (fun ls hl => ?_)
  obtain ⟨q9, hq9, h⟩ := o_bd_some h
  refine o_sim2 (AH := fun zz => o_At p l e rm_Jd_allDiffer s m _ below meth c _ o_cls D A 6 11 [] (o_cw ad ca rt Sj T0 T1 Rd Pg Pt Mk Lk Ck Jd Ld Pr) [(0, .ref (ad 49)), (1, .int x1), (2, .int zz.1), (3, .int zz.2)]) (AX := fun qq => if qq.1 = 1 then o_At p l e rm_Jd_allDiffer s m _ below meth c _ o_cls D A 6 69 [] (o_cw ad ca rt Sj T0 T1 Rd Pg Pt Mk Lk Ck Jd Ld Pr) [] else o_At p l e rm_Jd_allDiffer s m _ below meth c _ o_cls D A 6 103 [] (o_cw ad ca rt Sj T0 T1 Rd Pg Pt Mk Lk Ck Jd Ld Pr) []) (fun zz qq h h0 h1 => w_Jd_allDiffer_b11 hE C hDD n x1 T1 Sj T0 Rd Pg Pt Mk Lk Ck Jd Ld Pr rt zz qq h h0 h1) n _ q9 hq9 ?_ _ _ _ hP hS (lv_sub hl [2, 3, 1, 0] rfl)
  by_cases c5 : q9.1 = 1
  · replace h := o_tt c5 h
    refine o_ip c5 ?_
    intro H locs ls hP hS hl
    refine lv_iconst (v := (0:Int32)) hx hb d_Jd_allDiffer_69 (by decide) ?_
    cases h
    exact o_rz (v := (0:Int32)) C o_nar0 hP hS d_Jd_allDiffer_70
  replace h := o_ff c5 h
  refine o_in_ c5 ?_
  intro H locs ls hP hS hl
  refine lv_iconst (v := (1:Int32)) hx hb d_Jd_allDiffer_103 (by decide) ?_
  cases h
  exact o_rz (v := (1:Int32)) C o_nar1 hP hS d_Jd_allDiffer_104
set_option maxHeartbeats 4000000 in
set_option maxRecDepth 100000 in
theorem w_Jd_hasAll_b12 {E : (Nat → Prop) → State → Heap → Prop} {p : Program} {l : Launch} {e : Env} {s : State} {m : MethodId} {args : Array Value} {below : List Frame} {meth : Method} {c : Code} {D : va_G} {ad kd sd vd xd : Nat → Nat} {ca : Nat → ClassId} {A : Nat → Prop} {Q : State → Prop} (hE : o_EK E kd sd vd xd) (C : o_Cx E p s m args meth c D o_cls (o_tys ca) "SchemaJudge$Judge" b_Jd_hasAll (some .boolean) 5 cc_Jd_hasAll A) (hDD : ∀ (rt : Nat) (Sj : SSJ) (T0 : STx) (T1 : STx) (Rd : SRd) (Pg : SPg) (Pt : SPt) (Mk : SMk) (Lk : SLk) (Ck : SCk) (Jd : SJd) (Ld : SLd) (Pr : SPr), va_D A (o_cw ad ca rt Sj T0 T1 Rd Pg Pt Mk Lk Ck Jd Ld Pr)) (n : Nat) (u12_x1 : Int32) (u12_x2 : Int32) (u12_T0 : STx) (u12_T1 : STx) (u12_Sj : SSJ) (u12_Rd : SRd) (u12_Pg : SPg) (u12_Pt : SPt) (u12_Mk : SMk) (u12_Lk : SLk) (u12_Ck : SCk) (u12_Jd : SJd) (u12_Ld : SLd) (u12_Pr : SPr) (u12_rt : Nat) (z : Int32 × Int32) (q : Nat × Int32 × Int32) (h : m_Jd_hasAll_b12 n u12_x1 u12_x2 u12_T0 u12_T1 z = some q) (h0 : q.1 = 0 → o_At p l e rm_Jd_hasAll s m args below meth c Q o_cls D A 5 12 [] (o_cw ad ca u12_rt u12_Sj u12_T0 u12_T1 u12_Rd u12_Pg u12_Pt u12_Mk u12_Lk u12_Ck u12_Jd u12_Ld u12_Pr) [(0, .ref (ad 49)), (1, .int u12_x1), (2, .int u12_x2), (3, .int q.2.1), (4, .int q.2.2)]) (h1 : q.1 ≠ 0 → (if q.1 = 1 then o_At p l e rm_Jd_hasAll s m args below meth c Q o_cls D A 5 42 [] (o_cw ad ca u12_rt u12_Sj u12_T0 u12_T1 u12_Rd u12_Pg u12_Pt u12_Mk u12_Lk u12_Ck u12_Jd u12_Ld u12_Pr) [] else o_At p l e rm_Jd_hasAll s m args below meth c Q o_cls D A 5 59 [] (o_cw ad ca u12_rt u12_Sj u12_T0 u12_T1 u12_Rd u12_Pg u12_Pt u12_Mk u12_Lk u12_Ck u12_Jd u12_Ld u12_Pr) [])) : o_At p l e rm_Jd_hasAll s m args below meth c Q o_cls D A 5 12 [] (o_cw ad ca u12_rt u12_Sj u12_T0 u12_T1 u12_Rd u12_Pg u12_Pt u12_Mk u12_Lk u12_Ck u12_Jd u12_Ld u12_Pr) [(0, .ref (ad 49)), (1, .int u12_x1), (2, .int u12_x2), (3, .int z.1), (4, .int z.2)] := by
  unfold m_Jd_hasAll_b12 at h
  intro H locs ls hP hS hl
  have C0 := C
  obtain ⟨hx, hb, -, -, -, hown, hts, hK, -, -⟩ := C0
  refine lv_iload hx hb d_Jd_hasAll_12 (lv_at hl 4 rfl) ?_
  refine lv_aload_n hx hb d_Jd_hasAll_14 rfl (lv_at hl 0 rfl) ?_
  refine o_get (v := .ref (ad 1)) C in_Jd hP 49 cw_49 rfl 0 (by decide) k_2_74 rfl rfl d_Jd_hasAll_15 ?_
  refine lv_iload_n hx hb d_Jd_hasAll_18 rfl (lv_at hl 1 rfl) ?_
  obtain ⟨q2, hq2, h⟩ := o_bd_some h
  refine o_V (st1 := [.int q2, .int z.2]) (w1 := (o_cw ad ca u12_rt u12_Sj u12_T0 u12_T1 u12_Rd u12_Pg u12_Pt u12_Mk u12_Lk u12_Ck u12_Jd u12_Ld u12_Pr)) hE.1 C (c_Tx_size_0 hE l u12_x1 u12_T0 u12_Sj u12_T1 u12_Rd u12_Pg u12_Pt u12_Mk u12_Lk u12_Ck u12_Jd u12_Ld u12_Pr u12_rt hq2) hP (hDD _ _ _ _ _ _ _ _ _ _ _ _ _) hS hl.1 rfl cw_1 k_6_26 k_3_215 k_3_216 k_1_2 k_3_217 hv_Tx_size rfl rfl ⟨(Nat.le_of_ble_eq_true rfl), (Nat.le_of_ble_eq_true rfl)⟩ rfl (Nat.le_of_ble_eq_true rfl) ⟨Nat.zero_le _, Nat.zero_le _⟩ rfl d_Jd_hasAll_19 (fun H locs hP hS => ?_)
  refine lv_icmp_ge (tgt := 59) hx hb d_Jd_hasAll_22 (by decide) (fun c1 => ?_) (fun c1 => ?_)
  · replace h := o_tt c1 h
    cases h
    exact h1 (Nat.succ_ne_zero 1) _ _ _ hP hS (lv_sub hl [] rfl)
  · replace h := o_ff c1 h
    refine lv_aload_n hx hb d_Jd_hasAll_25 rfl (lv_at hl 0 rfl) ?_
    refine o_get (v := .ref (ad 12)) C in_Jd hP 49 cw_49 rfl 2 (by decide) k_2_76 rfl rfl d_Jd_hasAll_26 ?_
    refine lv_iload_n hx hb d_Jd_hasAll_29 rfl (lv_at hl 2 rfl) ?_
    refine lv_aload_n hx hb d_Jd_hasAll_30 rfl (lv_at hl 0 rfl) ?_
    refine o_get (v := .ref (ad 1)) C in_Jd hP 49 cw_49 rfl 0 (by decide) k_2_74 rfl rfl d_Jd_hasAll_31 ?_
    refine lv_iload_n hx hb d_Jd_hasAll_34 rfl (lv_at hl 3 rfl) ?_
    obtain ⟨q3, hq3, h⟩ := o_bd_some h
    refine o_V (st1 := [.int q3]) (w1 := (o_cw ad ca u12_rt u12_Sj u12_T0 u12_T1 u12_Rd u12_Pg u12_Pt u12_Mk u12_Lk u12_Ck u12_Jd u12_Ld u12_Pr)) hE.1 C (c_Tx_member_10 hE l n u12_x2 z.1 u12_T1 u12_T0 u12_Sj u12_Rd u12_Pg u12_Pt u12_Mk u12_Lk u12_Ck u12_Jd u12_Ld u12_Pr u12_rt hq3) hP (hDD _ _ _ _ _ _ _ _ _ _ _ _ _) hS hl.1 rfl cw_12 k_6_118 k_3_207 k_3_208 k_1_2 k_3_209 hv_Tx_member rfl rfl ⟨(Nat.le_of_ble_eq_true rfl), (Nat.le_of_ble_eq_true rfl)⟩ rfl (Nat.le_of_ble_eq_true rfl) ⟨Nat.zero_le _, Nat.zero_le _⟩ rfl d_Jd_hasAll_35 (fun H locs hP hS => ?_)
    refine lv_iconst (v := (-1:Int32)) hx hb d_Jd_hasAll_38 (by decide) ?_
    refine lv_icmp_ne (tgt := 44) hx hb d_Jd_hasAll_39 (by decide) (fun c2 => ?_) (fun c2 => ?_)
    · replace h := o_ff c2 h
      refine lv_aload_n hx hb d_Jd_hasAll_44 rfl (lv_at hl 0 rfl) ?_
      refine o_get (v := .ref (ad 1)) C in_Jd hP 49 cw_49 rfl 0 (by decide) k_2_74 rfl rfl d_Jd_hasAll_45 ?_
      refine lv_iload_n hx hb d_Jd_hasAll_48 rfl (lv_at hl 3 rfl) ?_
      obtain ⟨q4, hq4, h⟩ := o_bd_some h
      refine o_V (st1 := [.int q4]) (w1 := (o_cw ad ca u12_rt u12_Sj u12_T0 u12_T1 u12_Rd u12_Pg u12_Pt u12_Mk u12_Lk u12_Ck u12_Jd u12_Ld u12_Pr)) hE.1 C (c_Tx_nextChild_0 hE l z.1 u12_T0 u12_Sj u12_T1 u12_Rd u12_Pg u12_Pt u12_Mk u12_Lk u12_Ck u12_Jd u12_Ld u12_Pr u12_rt hq4) hP (hDD _ _ _ _ _ _ _ _ _ _ _ _ _) hS hl.1 rfl cw_1 k_6_28 k_3_222 k_3_223 k_1_2 k_3_224 hv_Tx_nextChild rfl rfl ⟨(Nat.le_of_ble_eq_true rfl), (Nat.le_of_ble_eq_true rfl)⟩ rfl (Nat.le_of_ble_eq_true rfl) ⟨Nat.zero_le _, Nat.zero_le _⟩ rfl d_Jd_hasAll_49 (fun H locs hP hS => ?_)
      refine lv_istore_n (lv' := [(3, .int q4), (0, .ref (ad 49)), (1, .int u12_x1), (2, .int u12_x2), (4, .int z.2)]) hx hb d_Jd_hasAll_52 rfl hl (by decide) rfl (fun ls hl => ?_)
      obtain ⟨x4_53, ex4_53⟩ : ∃ y : Int32, y = z.2 + (1:Int32) := ⟨_, rfl⟩
      replace h := o_nm_at ex4_53 h
      refine lv_iinc (v := x4_53) (lv' := [(4, .int x4_53), (3, .int q4), (0, .ref (ad 49)), (1, .int u12_x1), (2, .int u12_x2)]) hx hb d_Jd_hasAll_53 hl (k := 4) rfl (by rw [ex4_53]; rfl) (by decide) rfl (fun ls hl => ?_)
      refine lv_goto (tgt := 12) hx hb d_Jd_hasAll_56 (by decide) ?_
      cases h
      exact h0 rfl _ _ _ hP hS (lv_sub hl [2, 3, 4, 1, 0] rfl)
    · replace h := o_tt c2 h
      cases h
      exact h1 (Nat.succ_ne_zero 0) _ _ _ hP hS (lv_sub hl [] rfl)
set_option maxHeartbeats 4000000 in
set_option maxRecDepth 100000 in
theorem c_Jd_hasAll {E : (Nat → Prop) → State → Heap → Prop} {D : va_G} {ad kd sd vd xd : Nat → Nat} {ca : Nat → ClassId} (hE : o_EK E kd sd vd xd) (l : Launch) (n : Nat) (x1 : Int32) (x2 : Int32) (T0 : STx) (T1 : STx) (Sj : SSJ) (Rd : SRd) (Pg : SPg) (Pt : SPt) (Mk : SMk) (Lk : SLk) (Ck : SCk) (Jd : SJd) (Ld : SLd) (Pr : SPr) (rt : Nat) {r : Int32} (h : m_Jd_hasAll n x1 x2 T0 T1 = some r) : o_Cn E l D o_cls (o_tys ca) y_Jd_hasAll cc_Jd_hasAll rm_Jd_hasAll [.ref (ad 49), .int x1, .int x2] (o_cw ad ca rt Sj T0 T1 Rd Pg Pt Mk Lk Ck Jd Ld Pr) (o_cw ad ca rt Sj T0 T1 Rd Pg Pt Mk Lk Ck Jd Ld Pr) (some (.int r)) := by
  refine o_Cn_of (by decide) (Nat.le_of_ble_eq_true rfl) ?_
  intro p e s m below meth c A ls C hD hP hS hl
  have hDD : ∀ (rt : Nat) (Sj : SSJ) (T0 : STx) (T1 : STx) (Rd : SRd) (Pg : SPg) (Pt : SPt) (Mk : SMk) (Lk : SLk) (Ck : SCk) (Jd : SJd) (Ld : SLd) (Pr : SPr), va_D A (o_cw ad ca rt Sj T0 T1 Rd Pg Pt Mk Lk Ck Jd Ld Pr) := fun _ _ _ _ _ _ _ _ _ _ _ _ _ => o_D_map hD rfl
  have hl : lv_has ls 5 [(0, .ref (ad 49)), (1, .int x1), (2, .int x2)] := hl
  unfold m_Jd_hasAll at h
  have C0 := C
  obtain ⟨hx, hb, -, -, -, hown, hts, hK, -, -⟩ := C0
  refine lv_aload_n hx hb d_Jd_hasAll_0 rfl (lv_at hl 0 rfl) ?_
  refine o_get (v := .ref (ad 1)) C in_Jd hP 49 cw_49 rfl 0 (by decide) k_2_74 rfl rfl d_Jd_hasAll_1 ?_
  refine lv_iload_n hx hb d_Jd_hasAll_4 rfl (lv_at hl 1 rfl) ?_
  obtain ⟨q1, hq1, h⟩ := o_bd_some h
  refine o_V (st1 := [.int q1]) (w1 := (o_cw ad ca rt Sj T0 T1 Rd Pg Pt Mk Lk Ck Jd Ld Pr)) hE.1 C (c_Tx_firstChild_0 hE l x1 T0 Sj T1 Rd Pg Pt Mk Lk Ck Jd Ld Pr rt hq1) hP (hDD _ _ _ _ _ _ _ _ _ _ _ _ _) hS hl.1 rfl cw_1 k_6_25 k_3_211 k_3_212 k_1_2 k_3_213 hv_Tx_firstChild rfl rfl ⟨(Nat.le_of_ble_eq_true rfl), (Nat.le_of_ble_eq_true rfl)⟩ rfl (Nat.le_of_ble_eq_true rfl) ⟨Nat.zero_le _, Nat.zero_le _⟩ rfl d_Jd_hasAll_5 (fun H locs hP hS => ?_)
  refine lv_istore_n (lv' := [(3, .int q1), (0, .ref (ad 49)), (1, .int x1), (2, .int x2)]) hx hb d_Jd_hasAll_8 rfl hl (by decide) rfl (fun ls hl => ?_)
  refine lv_iconst (v := (0:Int32)) hx hb d_Jd_hasAll_9 (by decide) ?_
  refine lv_istore (lv' := [(4, .int (0:Int32)), (3, .int q1), (0, .ref (ad 49)), (1, .int x1), (2, .int x2)]) hx hb d_Jd_hasAll_10 hl (by decide) rfl (fun ls hl => ?_)
  obtain ⟨q5, hq5, h⟩ := o_bd_some h
  refine o_sim2 (AH := fun zz => o_At p l e rm_Jd_hasAll s m _ below meth c _ o_cls D A 5 12 [] (o_cw ad ca rt Sj T0 T1 Rd Pg Pt Mk Lk Ck Jd Ld Pr) [(0, .ref (ad 49)), (1, .int x1), (2, .int x2), (3, .int zz.1), (4, .int zz.2)]) (AX := fun qq => if qq.1 = 1 then o_At p l e rm_Jd_hasAll s m _ below meth c _ o_cls D A 5 42 [] (o_cw ad ca rt Sj T0 T1 Rd Pg Pt Mk Lk Ck Jd Ld Pr) [] else o_At p l e rm_Jd_hasAll s m _ below meth c _ o_cls D A 5 59 [] (o_cw ad ca rt Sj T0 T1 Rd Pg Pt Mk Lk Ck Jd Ld Pr) []) (fun zz qq h h0 h1 => w_Jd_hasAll_b12 hE C hDD n x1 x2 T0 T1 Sj Rd Pg Pt Mk Lk Ck Jd Ld Pr rt zz qq h h0 h1) n _ q5 hq5 ?_ _ _ _ hP hS (lv_sub hl [2, 3, 4, 1, 0] rfl)
  by_cases c3 : q5.1 = 1
  · replace h := o_tt c3 h
    refine o_ip c3 ?_
    intro H locs ls hP hS hl
    refine lv_iconst (v := (0:Int32)) hx hb d_Jd_hasAll_42 (by decide) ?_
    cases h
    exact o_rz (v := (0:Int32)) C o_nar0 hP hS d_Jd_hasAll_43
  replace h := o_ff c3 h
  refine o_in_ c3 ?_
  intro H locs ls hP hS hl
  refine lv_iconst (v := (1:Int32)) hx hb d_Jd_hasAll_59 (by decide) ?_
  cases h
  exact o_rz (v := (1:Int32)) C o_nar1 hP hS d_Jd_hasAll_60
set_option maxHeartbeats 4000000 in
set_option maxRecDepth 100000 in
theorem w_Jd_hasDependents_j55 {E : (Nat → Prop) → State → Heap → Prop} {p : Program} {l : Launch} {e : Env} {s : State} {m : MethodId} {args : Array Value} {below : List Frame} {meth : Method} {c : Code} {D : va_G} {ad kd sd vd xd : Nat → Nat} {ca : Nat → ClassId} {A : Nat → Prop} {Q : State → Prop} (hE : o_EK E kd sd vd xd) (C : o_Cx E p s m args meth c D o_cls (o_tys ca) "SchemaJudge$Judge" b_Jd_hasDependents (some .boolean) 5 cc_Jd_hasDependents A) (hDD : ∀ (rt : Nat) (Sj : SSJ) (T0 : STx) (T1 : STx) (Rd : SRd) (Pg : SPg) (Pt : SPt) (Mk : SMk) (Lk : SLk) (Ck : SCk) (Jd : SJd) (Ld : SLd) (Pr : SPr), va_D A (o_cw ad ca rt Sj T0 T1 Rd Pg Pt Mk Lk Ck Jd Ld Pr)) (n : Nat) (u12_x1 : Int32) (u12_x2 : Int32) (u12_T0 : STx) (u12_T1 : STx) (u12_Sj : SSJ) (u12_Rd : SRd) (u12_Pg : SPg) (u12_Pt : SPt) (u12_Mk : SMk) (u12_Lk : SLk) (u12_Ck : SCk) (u12_Jd : SJd) (u12_Ld : SLd) (u12_Pr : SPr) (u12_rt : Nat) (x3 : Int32) (x4 : Int32) {q : Nat × Int32 × Int32} (h : m_Jd_hasDependents_j55 n u12_x1 u12_x2 x3 x4 u12_T0 u12_T1 = some q) (h0 : q.1 = 0 → o_At p l e rm_Jd_hasDependents s m args below meth c Q o_cls D A 5 12 [] (o_cw ad ca u12_rt u12_Sj u12_T0 u12_T1 u12_Rd u12_Pg u12_Pt u12_Mk u12_Lk u12_Ck u12_Jd u12_Ld u12_Pr) [(0, .ref (ad 49)), (1, .int u12_x1), (2, .int u12_x2), (3, .int q.2.1), (4, .int q.2.2)]) (h1 : q.1 ≠ 0 → (if q.1 = 1 then o_At p l e rm_Jd_hasDependents s m args below meth c Q o_cls D A 5 53 [] (o_cw ad ca u12_rt u12_Sj u12_T0 u12_T1 u12_Rd u12_Pg u12_Pt u12_Mk u12_Lk u12_Ck u12_Jd u12_Ld u12_Pr) [] else o_At p l e rm_Jd_hasDependents s m args below meth c Q o_cls D A 5 70 [] (o_cw ad ca u12_rt u12_Sj u12_T0 u12_T1 u12_Rd u12_Pg u12_Pt u12_Mk u12_Lk u12_Ck u12_Jd u12_Ld u12_Pr) [])) : o_At p l e rm_Jd_hasDependents s m args below meth c Q o_cls D A 5 55 [] (o_cw ad ca u12_rt u12_Sj u12_T0 u12_T1 u12_Rd u12_Pg u12_Pt u12_Mk u12_Lk u12_Ck u12_Jd u12_Ld u12_Pr) [(0, .ref (ad 49)), (1, .int u12_x1), (2, .int u12_x2), (3, .int x3), (4, .int x4)] := by
  unfold m_Jd_hasDependents_j55 at h
  intro H locs ls hP hS hl
  have C0 := C
  obtain ⟨hx, hb, -, -, -, hown, hts, hK, -, -⟩ := C0
  refine lv_aload_n hx hb d_Jd_hasDependents_55 rfl (lv_at hl 0 rfl) ?_
  refine o_get (v := .ref (ad 1)) C in_Jd hP 49 cw_49 rfl 0 (by decide) k_2_74 rfl rfl d_Jd_hasDependents_56 ?_
  refine lv_iload_n hx hb d_Jd_hasDependents_59 rfl (lv_at hl 3 rfl) ?_
  obtain ⟨q4, hq4, h⟩ := o_bd_some h
  refine o_V (st1 := [.int q4]) (w1 := (o_cw ad ca u12_rt u12_Sj u12_T0 u12_T1 u12_Rd u12_Pg u12_Pt u12_Mk u12_Lk u12_Ck u12_Jd u12_Ld u12_Pr)) hE.1 C (c_Tx_nextChild_0 hE l x3 u12_T0 u12_Sj u12_T1 u12_Rd u12_Pg u12_Pt u12_Mk u12_Lk u12_Ck u12_Jd u12_Ld u12_Pr u12_rt hq4) hP (hDD _ _ _ _ _ _ _ _ _ _ _ _ _) hS hl.1 rfl cw_1 k_6_28 k_3_222 k_3_223 k_1_2 k_3_224 hv_Tx_nextChild rfl rfl ⟨(Nat.le_of_ble_eq_true rfl), (Nat.le_of_ble_eq_true rfl)⟩ rfl (Nat.le_of_ble_eq_true rfl) ⟨Nat.zero_le _, Nat.zero_le _⟩ rfl d_Jd_hasDependents_60 (fun H locs hP hS => ?_)
  refine lv_istore_n (lv' := [(3, .int q4), (0, .ref (ad 49)), (1, .int u12_x1), (2, .int u12_x2), (4, .int x4)]) hx hb d_Jd_hasDependents_63 rfl hl (by decide) rfl (fun ls hl => ?_)
  obtain ⟨x4_64, ex4_64⟩ : ∃ y : Int32, y = x4 + (1:Int32) := ⟨_, rfl⟩
  replace h := o_nm_at ex4_64 h
  refine lv_iinc (v := x4_64) (lv' := [(4, .int x4_64), (3, .int q4), (0, .ref (ad 49)), (1, .int u12_x1), (2, .int u12_x2)]) hx hb d_Jd_hasDependents_64 hl (k := 4) rfl (by rw [ex4_64]; rfl) (by decide) rfl (fun ls hl => ?_)
  refine lv_goto (tgt := 12) hx hb d_Jd_hasDependents_67 (by decide) ?_
  cases h
  exact h0 rfl _ _ _ hP hS (lv_sub hl [2, 3, 4, 1, 0] rfl)
set_option maxHeartbeats 4000000 in
set_option maxRecDepth 100000 in
theorem w_Jd_hasDependents_b12 {E : (Nat → Prop) → State → Heap → Prop} {p : Program} {l : Launch} {e : Env} {s : State} {m : MethodId} {args : Array Value} {below : List Frame} {meth : Method} {c : Code} {D : va_G} {ad kd sd vd xd : Nat → Nat} {ca : Nat → ClassId} {A : Nat → Prop} {Q : State → Prop} (hE : o_EK E kd sd vd xd) (C : o_Cx E p s m args meth c D o_cls (o_tys ca) "SchemaJudge$Judge" b_Jd_hasDependents (some .boolean) 5 cc_Jd_hasDependents A) (hDD : ∀ (rt : Nat) (Sj : SSJ) (T0 : STx) (T1 : STx) (Rd : SRd) (Pg : SPg) (Pt : SPt) (Mk : SMk) (Lk : SLk) (Ck : SCk) (Jd : SJd) (Ld : SLd) (Pr : SPr), va_D A (o_cw ad ca rt Sj T0 T1 Rd Pg Pt Mk Lk Ck Jd Ld Pr)) (n : Nat) (u12_x1 : Int32) (u12_x2 : Int32) (u12_T0 : STx) (u12_T1 : STx) (u12_Sj : SSJ) (u12_Rd : SRd) (u12_Pg : SPg) (u12_Pt : SPt) (u12_Mk : SMk) (u12_Lk : SLk) (u12_Ck : SCk) (u12_Jd : SJd) (u12_Ld : SLd) (u12_Pr : SPr) (u12_rt : Nat) (z : Int32 × Int32) (q : Nat × Int32 × Int32) (h : m_Jd_hasDependents_b12 n u12_x1 u12_x2 u12_T0 u12_T1 z = some q) (h0 : q.1 = 0 → o_At p l e rm_Jd_hasDependents s m args below meth c Q o_cls D A 5 12 [] (o_cw ad ca u12_rt u12_Sj u12_T0 u12_T1 u12_Rd u12_Pg u12_Pt u12_Mk u12_Lk u12_Ck u12_Jd u12_Ld u12_Pr) [(0, .ref (ad 49)), (1, .int u12_x1), (2, .int u12_x2), (3, .int q.2.1), (4, .int q.2.2)]) (h1 : q.1 ≠ 0 → (if q.1 = 1 then o_At p l e rm_Jd_hasDependents s m args below meth c Q o_cls D A 5 53 [] (o_cw ad ca u12_rt u12_Sj u12_T0 u12_T1 u12_Rd u12_Pg u12_Pt u12_Mk u12_Lk u12_Ck u12_Jd u12_Ld u12_Pr) [] else o_At p l e rm_Jd_hasDependents s m args below meth c Q o_cls D A 5 70 [] (o_cw ad ca u12_rt u12_Sj u12_T0 u12_T1 u12_Rd u12_Pg u12_Pt u12_Mk u12_Lk u12_Ck u12_Jd u12_Ld u12_Pr) [])) : o_At p l e rm_Jd_hasDependents s m args below meth c Q o_cls D A 5 12 [] (o_cw ad ca u12_rt u12_Sj u12_T0 u12_T1 u12_Rd u12_Pg u12_Pt u12_Mk u12_Lk u12_Ck u12_Jd u12_Ld u12_Pr) [(0, .ref (ad 49)), (1, .int u12_x1), (2, .int u12_x2), (3, .int z.1), (4, .int z.2)] := by
  unfold m_Jd_hasDependents_b12 at h
  intro H locs ls hP hS hl
  have C0 := C
  obtain ⟨hx, hb, -, -, -, hown, hts, hK, -, -⟩ := C0
  refine lv_iload hx hb d_Jd_hasDependents_12 (lv_at hl 4 rfl) ?_
  refine lv_aload_n hx hb d_Jd_hasDependents_14 rfl (lv_at hl 0 rfl) ?_
  refine o_get (v := .ref (ad 1)) C in_Jd hP 49 cw_49 rfl 0 (by decide) k_2_74 rfl rfl d_Jd_hasDependents_15 ?_
  refine lv_iload_n hx hb d_Jd_hasDependents_18 rfl (lv_at hl 1 rfl) ?_
  obtain ⟨q2, hq2, h⟩ := o_bd_some h
  refine o_V (st1 := [.int q2, .int z.2]) (w1 := (o_cw ad ca u12_rt u12_Sj u12_T0 u12_T1 u12_Rd u12_Pg u12_Pt u12_Mk u12_Lk u12_Ck u12_Jd u12_Ld u12_Pr)) hE.1 C (c_Tx_size_0 hE l u12_x1 u12_T0 u12_Sj u12_T1 u12_Rd u12_Pg u12_Pt u12_Mk u12_Lk u12_Ck u12_Jd u12_Ld u12_Pr u12_rt hq2) hP (hDD _ _ _ _ _ _ _ _ _ _ _ _ _) hS hl.1 rfl cw_1 k_6_26 k_3_215 k_3_216 k_1_2 k_3_217 hv_Tx_size rfl rfl ⟨(Nat.le_of_ble_eq_true rfl), (Nat.le_of_ble_eq_true rfl)⟩ rfl (Nat.le_of_ble_eq_true rfl) ⟨Nat.zero_le _, Nat.zero_le _⟩ rfl d_Jd_hasDependents_19 (fun H locs hP hS => ?_)
  refine lv_icmp_ge (tgt := 70) hx hb d_Jd_hasDependents_22 (by decide) (fun c1 => ?_) (fun c1 => ?_)
  · replace h := o_tt c1 h
    cases h
    exact h1 (Nat.succ_ne_zero 1) _ _ _ hP hS (lv_sub hl [] rfl)
  · replace h := o_ff c1 h
    refine lv_aload_n hx hb d_Jd_hasDependents_25 rfl (lv_at hl 0 rfl) ?_
    refine o_get (v := .ref (ad 12)) C in_Jd hP 49 cw_49 rfl 2 (by decide) k_2_76 rfl rfl d_Jd_hasDependents_26 ?_
    refine lv_iload_n hx hb d_Jd_hasDependents_29 rfl (lv_at hl 2 rfl) ?_
    refine lv_aload_n hx hb d_Jd_hasDependents_30 rfl (lv_at hl 0 rfl) ?_
    refine o_get (v := .ref (ad 1)) C in_Jd hP 49 cw_49 rfl 0 (by decide) k_2_74 rfl rfl d_Jd_hasDependents_31 ?_
    refine lv_iload_n hx hb d_Jd_hasDependents_34 rfl (lv_at hl 3 rfl) ?_
    refine lv_iconst (v := (1:Int32)) hx hb d_Jd_hasDependents_35 (by decide) ?_
    refine lv_isub hx hb d_Jd_hasDependents_36 ?_
    obtain ⟨q3, hq3, h⟩ := o_bd_some h
    refine o_V (st1 := [.int q3]) (w1 := (o_cw ad ca u12_rt u12_Sj u12_T0 u12_T1 u12_Rd u12_Pg u12_Pt u12_Mk u12_Lk u12_Ck u12_Jd u12_Ld u12_Pr)) hE.1 C (c_Tx_member_10 hE l n u12_x2 (z.1 - (1:Int32)) u12_T1 u12_T0 u12_Sj u12_Rd u12_Pg u12_Pt u12_Mk u12_Lk u12_Ck u12_Jd u12_Ld u12_Pr u12_rt hq3) hP (hDD _ _ _ _ _ _ _ _ _ _ _ _ _) hS hl.1 rfl cw_12 k_6_118 k_3_207 k_3_208 k_1_2 k_3_209 hv_Tx_member rfl rfl ⟨(Nat.le_of_ble_eq_true rfl), (Nat.le_of_ble_eq_true rfl)⟩ rfl (Nat.le_of_ble_eq_true rfl) ⟨Nat.zero_le _, Nat.zero_le _⟩ rfl d_Jd_hasDependents_37 (fun H locs hP hS => ?_)
    refine lv_iconst (v := (-1:Int32)) hx hb d_Jd_hasDependents_40 (by decide) ?_
    refine lv_icmp_eq (tgt := 55) hx hb d_Jd_hasDependents_41 (by decide) (fun c2 => ?_) (fun c2 => ?_)
    · replace h := o_tt c2 h
      exact w_Jd_hasDependents_j55 hE C hDD n u12_x1 u12_x2 u12_T0 u12_T1 u12_Sj u12_Rd u12_Pg u12_Pt u12_Mk u12_Lk u12_Ck u12_Jd u12_Ld u12_Pr u12_rt z.1 z.2 h h0 h1 _ _ _ hP hS (lv_sub hl [0, 1, 2, 3, 4] rfl)
    · replace h := o_ff c2 h
      refine lv_aload_n hx hb d_Jd_hasDependents_44 rfl (lv_at hl 0 rfl) ?_
      refine lv_iload_n hx hb d_Jd_hasDependents_45 rfl (lv_at hl 3 rfl) ?_
      refine lv_iload_n hx hb d_Jd_hasDependents_46 rfl (lv_at hl 2 rfl) ?_
      obtain ⟨q5, hq5, h⟩ := o_bd_some h
      refine o_V (st1 := [.int q5]) (w1 := (o_cw ad ca u12_rt u12_Sj u12_T0 u12_T1 u12_Rd u12_Pg u12_Pt u12_Mk u12_Lk u12_Ck u12_Jd u12_Ld u12_Pr)) hE.1 C (c_Jd_hasAll hE l n z.1 u12_x2 u12_T0 u12_T1 u12_Sj u12_Rd u12_Pg u12_Pt u12_Mk u12_Lk u12_Ck u12_Jd u12_Ld u12_Pr u12_rt hq5) hP (hDD _ _ _ _ _ _ _ _ _ _ _ _ _) hS hl.1 rfl cw_49 k_6_222 k_6_224 k_s_79 k_1_9 k_6_225 hv_Jd_hasAll rfl rfl ⟨(Nat.le_of_ble_eq_true rfl), (Nat.le_of_ble_eq_true rfl)⟩ rfl (Nat.le_of_ble_eq_true rfl) ⟨Nat.zero_le _, Nat.zero_le _⟩ rfl d_Jd_hasDependents_47 (fun H locs hP hS => ?_)
      refine lv_if_ne (tgt := 55) hx hb d_Jd_hasDependents_50 (by decide) (fun c3 => ?_) (fun c3 => ?_)
      · replace h := o_ff c3 h
        exact w_Jd_hasDependents_j55 hE C hDD n u12_x1 u12_x2 u12_T0 u12_T1 u12_Sj u12_Rd u12_Pg u12_Pt u12_Mk u12_Lk u12_Ck u12_Jd u12_Ld u12_Pr u12_rt z.1 z.2 h h0 h1 _ _ _ hP hS (lv_sub hl [0, 1, 2, 3, 4] rfl)
      · replace h := o_tt c3 h
        cases h
        exact h1 (Nat.succ_ne_zero 0) _ _ _ hP hS (lv_sub hl [] rfl)
set_option maxHeartbeats 4000000 in
set_option maxRecDepth 100000 in
theorem c_Jd_hasDependents {E : (Nat → Prop) → State → Heap → Prop} {D : va_G} {ad kd sd vd xd : Nat → Nat} {ca : Nat → ClassId} (hE : o_EK E kd sd vd xd) (l : Launch) (n : Nat) (x1 : Int32) (x2 : Int32) (T0 : STx) (T1 : STx) (Sj : SSJ) (Rd : SRd) (Pg : SPg) (Pt : SPt) (Mk : SMk) (Lk : SLk) (Ck : SCk) (Jd : SJd) (Ld : SLd) (Pr : SPr) (rt : Nat) {r : Int32} (h : m_Jd_hasDependents n x1 x2 T0 T1 = some r) : o_Cn E l D o_cls (o_tys ca) y_Jd_hasDependents cc_Jd_hasDependents rm_Jd_hasDependents [.ref (ad 49), .int x1, .int x2] (o_cw ad ca rt Sj T0 T1 Rd Pg Pt Mk Lk Ck Jd Ld Pr) (o_cw ad ca rt Sj T0 T1 Rd Pg Pt Mk Lk Ck Jd Ld Pr) (some (.int r)) := by
  refine o_Cn_of (by decide) (Nat.le_of_ble_eq_true rfl) ?_
  intro p e s m below meth c A ls C hD hP hS hl
  have hDD : ∀ (rt : Nat) (Sj : SSJ) (T0 : STx) (T1 : STx) (Rd : SRd) (Pg : SPg) (Pt : SPt) (Mk : SMk) (Lk : SLk) (Ck : SCk) (Jd : SJd) (Ld : SLd) (Pr : SPr), va_D A (o_cw ad ca rt Sj T0 T1 Rd Pg Pt Mk Lk Ck Jd Ld Pr) := fun _ _ _ _ _ _ _ _ _ _ _ _ _ => o_D_map hD rfl
  have hl : lv_has ls 5 [(0, .ref (ad 49)), (1, .int x1), (2, .int x2)] := hl
  unfold m_Jd_hasDependents at h
  have C0 := C
  obtain ⟨hx, hb, -, -, -, hown, hts, hK, -, -⟩ := C0
  refine lv_aload_n hx hb d_Jd_hasDependents_0 rfl (lv_at hl 0 rfl) ?_
  refine o_get (v := .ref (ad 1)) C in_Jd hP 49 cw_49 rfl 0 (by decide) k_2_74 rfl rfl d_Jd_hasDependents_1 ?_
  refine lv_iload_n hx hb d_Jd_hasDependents_4 rfl (lv_at hl 1 rfl) ?_
  obtain ⟨q1, hq1, h⟩ := o_bd_some h
  refine o_V (st1 := [.int q1]) (w1 := (o_cw ad ca rt Sj T0 T1 Rd Pg Pt Mk Lk Ck Jd Ld Pr)) hE.1 C (c_Tx_firstChild_0 hE l x1 T0 Sj T1 Rd Pg Pt Mk Lk Ck Jd Ld Pr rt hq1) hP (hDD _ _ _ _ _ _ _ _ _ _ _ _ _) hS hl.1 rfl cw_1 k_6_25 k_3_211 k_3_212 k_1_2 k_3_213 hv_Tx_firstChild rfl rfl ⟨(Nat.le_of_ble_eq_true rfl), (Nat.le_of_ble_eq_true rfl)⟩ rfl (Nat.le_of_ble_eq_true rfl) ⟨Nat.zero_le _, Nat.zero_le _⟩ rfl d_Jd_hasDependents_5 (fun H locs hP hS => ?_)
  refine lv_istore_n (lv' := [(3, .int q1), (0, .ref (ad 49)), (1, .int x1), (2, .int x2)]) hx hb d_Jd_hasDependents_8 rfl hl (by decide) rfl (fun ls hl => ?_)
  refine lv_iconst (v := (0:Int32)) hx hb d_Jd_hasDependents_9 (by decide) ?_
  refine lv_istore (lv' := [(4, .int (0:Int32)), (3, .int q1), (0, .ref (ad 49)), (1, .int x1), (2, .int x2)]) hx hb d_Jd_hasDependents_10 hl (by decide) rfl (fun ls hl => ?_)
  obtain ⟨q6, hq6, h⟩ := o_bd_some h
  refine o_sim2 (AH := fun zz => o_At p l e rm_Jd_hasDependents s m _ below meth c _ o_cls D A 5 12 [] (o_cw ad ca rt Sj T0 T1 Rd Pg Pt Mk Lk Ck Jd Ld Pr) [(0, .ref (ad 49)), (1, .int x1), (2, .int x2), (3, .int zz.1), (4, .int zz.2)]) (AX := fun qq => if qq.1 = 1 then o_At p l e rm_Jd_hasDependents s m _ below meth c _ o_cls D A 5 53 [] (o_cw ad ca rt Sj T0 T1 Rd Pg Pt Mk Lk Ck Jd Ld Pr) [] else o_At p l e rm_Jd_hasDependents s m _ below meth c _ o_cls D A 5 70 [] (o_cw ad ca rt Sj T0 T1 Rd Pg Pt Mk Lk Ck Jd Ld Pr) []) (fun zz qq h h0 h1 => w_Jd_hasDependents_b12 hE C hDD n x1 x2 T0 T1 Sj Rd Pg Pt Mk Lk Ck Jd Ld Pr rt zz qq h h0 h1) n _ q6 hq6 ?_ _ _ _ hP hS (lv_sub hl [2, 3, 4, 1, 0] rfl)
  by_cases c4 : q6.1 = 1
  · replace h := o_tt c4 h
    refine o_ip c4 ?_
    intro H locs ls hP hS hl
    refine lv_iconst (v := (0:Int32)) hx hb d_Jd_hasDependents_53 (by decide) ?_
    cases h
    exact o_rz (v := (0:Int32)) C o_nar0 hP hS d_Jd_hasDependents_54
  replace h := o_ff c4 h
  refine o_in_ c4 ?_
  intro H locs ls hP hS hl
  refine lv_iconst (v := (1:Int32)) hx hb d_Jd_hasDependents_70 (by decide) ?_
  cases h
  exact o_rz (v := (1:Int32)) C o_nar1 hP hS d_Jd_hasDependents_71
set_option maxHeartbeats 4000000 in
set_option maxRecDepth 100000 in
theorem w_JA_fill_1_b6_d {E : (Nat → Prop) → State → Heap → Prop} {p : Program} {l : Launch} {e : Env} {s : State} {m : MethodId} {args : Array Value} {below : List Frame} {meth : Method} {c : Code} {D : va_G} {ad kd sd vd xd : Nat → Nat} {ca : Nat → ClassId} {A : Nat → Prop} {Q : State → Prop} (hE : o_EK E kd sd vd xd) (C : o_Cx E p s m args meth c D o_cls (o_tys ca) "java/util/Arrays" b_JA_fill_1 none 5 cc_JA_fill_1 A) (hDD : ∀ (rt : Nat) (Sj : SSJ) (T0 : STx) (T1 : STx) (Rd : SRd) (Pg : SPg) (Pt : SPt) (Mk : SMk) (Lk : SLk) (Ck : SCk) (Jd : SJd) (Ld : SLd) (Pr : SPr), va_D A (o_cw ad ca rt Sj T0 T1 Rd Pg Pt Mk Lk Ck Jd Ld Pr)) (n : Nat) (u6_x1 : Int64) (u6_x4 : Int32) (u6_Sj : SSJ) (u6_T0 : STx) (u6_T1 : STx) (u6_Rd : SRd) (u6_Pg : SPg) (u6_Pt : SPt) (u6_Mk : SMk) (u6_Lk : SLk) (u6_Ck : SCk) (u6_Jd : SJd) (u6_Ld : SLd) (u6_Pr : SPr) (u6_rt : Nat) (z : Int32 × (Nat → Int64)) (q : Nat × Int32 × (Nat → Int64)) (h : m_JA_fill_1_b6 n u6_x1 u6_x4 z = some q) (h0 : q.1 = 0 → o_At p l e rm_JA_fill_1 s m args below meth c Q o_cls D A 5 6 [] (o_cw ad ca u6_rt u6_Sj u6_T0 u6_T1 u6_Rd u6_Pg u6_Pt u6_Mk u6_Lk u6_Ck u6_Jd (Ld_mk q.2.2 (Ld_rest u6_Ld)) u6_Pr) [(0, .ref (ad 52)), (1, .long u6_x1), (3, .int q.2.1), (4, .int u6_x4)]) (h1 : q.1 ≠ 0 → (o_At p l e rm_JA_fill_1 s m args below meth c Q o_cls D A 5 22 [] (o_cw ad ca u6_rt u6_Sj u6_T0 u6_T1 u6_Rd u6_Pg u6_Pt u6_Mk u6_Lk u6_Ck u6_Jd (Ld_mk q.2.2 (Ld_rest u6_Ld)) u6_Pr) [])) : o_At p l e rm_JA_fill_1 s m args below meth c Q o_cls D A 5 6 [] (o_cw ad ca u6_rt u6_Sj u6_T0 u6_T1 u6_Rd u6_Pg u6_Pt u6_Mk u6_Lk u6_Ck u6_Jd (Ld_mk z.2 (Ld_rest u6_Ld)) u6_Pr) [(0, .ref (ad 52)), (1, .long u6_x1), (3, .int z.1), (4, .int u6_x4)] := by
  unfold m_JA_fill_1_b6 at h
  intro H locs ls hP hS hl
  have C0 := C
  obtain ⟨hx, hb, -, -, -, hown, hts, hK, -, -⟩ := C0
  refine lv_iload_n hx hb d_JA_fill_1_6 rfl (lv_at hl 2 rfl) ?_
  refine lv_iload hx hb d_JA_fill_1_7 (lv_at hl 3 rfl) ?_
  refine lv_icmp_ge (tgt := 22) hx hb d_JA_fill_1_9 (by decide) (fun c1 => ?_) (fun c1 => ?_)
  · replace h := o_tt c1 h
    cases h
    exact h1 (Nat.succ_ne_zero 0) _ _ _ hP hS (lv_sub hl [] rfl)
  · replace h := o_ff c1 h
    refine lv_aload_n hx hb d_JA_fill_1_12 rfl (lv_at hl 0 rfl) ?_
    refine lv_iload_n hx hb d_JA_fill_1_13 rfl (lv_at hl 2 rfl) ?_
    refine lv_lload_n hx hb d_JA_fill_1_14 rfl (lv_at hl 1 rfl) ?_
    obtain ⟨g2, h⟩ := o_gd_some h
    refine o_last (f := z.2) (w1 := (o_cw ad ca u6_rt u6_Sj u6_T0 u6_T1 u6_Rd u6_Pg u6_Pt u6_Mk u6_Lk u6_Ck u6_Jd (Ld_mk (vp_updL z.2 z.1.toNatClampNeg u6_x1) (Ld_rest u6_Ld)) u6_Pr)) C hP (hDD _ _ _ _ _ _ _ _ _ _ _ _ _) hS 52 41 cw_52 rfl g2 rfl d_JA_fill_1_15 (fun H locs hP hS => ?_)
    obtain ⟨x3_16, ex3_16⟩ : ∃ y : Int32, y = z.1 + (1:Int32) := ⟨_, rfl⟩
    replace h := o_nm_at ex3_16 h
    refine lv_iinc (v := x3_16) (lv' := [(3, .int x3_16), (0, .ref (ad 52)), (1, .long u6_x1), (4, .int u6_x4)]) hx hb d_JA_fill_1_16 hl (k := 2) rfl (by rw [ex3_16]; rfl) (by decide) rfl (fun ls hl => ?_)
    refine lv_goto (tgt := 6) hx hb d_JA_fill_1_19 (by decide) ?_
    cases h
    exact h0 rfl _ _ _ hP hS (lv_sub hl [1, 2, 0, 3] rfl)
set_option maxHeartbeats 4000000 in
set_option maxRecDepth 100000 in
theorem c_JA_fill_1_d {E : (Nat → Prop) → State → Heap → Prop} {D : va_G} {ad kd sd vd xd : Nat → Nat} {ca : Nat → ClassId} (hE : o_EK E kd sd vd xd) (l : Launch) (n : Nat) (x1 : Int64) (r0 : (Nat → Int64)) (Sj : SSJ) (T0 : STx) (T1 : STx) (Rd : SRd) (Pg : SPg) (Pt : SPt) (Mk : SMk) (Lk : SLk) (Ck : SCk) (Jd : SJd) (Ld : SLd) (Pr : SPr) (rt : Nat) {r : (Nat → Int64)} (h : m_JA_fill_1 n x1 r0 = some r) : o_Cn E l D o_cls (o_tys ca) y_JA_fill_1 cc_JA_fill_1 rm_JA_fill_1 [.ref (ad 52), .long x1] (o_cw ad ca rt Sj T0 T1 Rd Pg Pt Mk Lk Ck Jd (Ld_mk r0 (Ld_rest Ld)) Pr) (o_cw ad ca rt Sj T0 T1 Rd Pg Pt Mk Lk Ck Jd (Ld_mk r (Ld_rest Ld)) Pr) none := by
  refine o_Cn_of (by decide) (Nat.le_of_ble_eq_true rfl) ?_
  intro p e s m below meth c A ls C hD hP hS hl
  have hDD : ∀ (rt : Nat) (Sj : SSJ) (T0 : STx) (T1 : STx) (Rd : SRd) (Pg : SPg) (Pt : SPt) (Mk : SMk) (Lk : SLk) (Ck : SCk) (Jd : SJd) (Ld : SLd) (Pr : SPr), va_D A (o_cw ad ca rt Sj T0 T1 Rd Pg Pt Mk Lk Ck Jd Ld Pr) := fun _ _ _ _ _ _ _ _ _ _ _ _ _ => o_D_map hD rfl
  have hl : lv_has ls 5 [(0, .ref (ad 52)), (1, .long x1)] := hl
  unfold m_JA_fill_1 at h
  have C0 := C
  obtain ⟨hx, hb, -, -, -, hown, hts, hK, -, -⟩ := C0
  refine lv_iconst (v := (0:Int32)) hx hb d_JA_fill_1_0 (by decide) ?_
  refine lv_istore_n (lv' := [(3, .int (0:Int32)), (0, .ref (ad 52)), (1, .long x1)]) hx hb d_JA_fill_1_1 rfl hl (by decide) rfl (fun ls hl => ?_)
  refine lv_aload_n hx hb d_JA_fill_1_2 rfl (lv_at hl 1 rfl) ?_
  refine va_alen (v := (7:Int32)) hx hb hK hP 52 41 cw_52 rfl rfl d_JA_fill_1_3 ?_
  refine lv_istore (lv' := [(4, .int (7:Int32)), (3, .int (0:Int32)), (0, .ref (ad 52)), (1, .long x1)]) hx hb d_JA_fill_1_4 hl (by decide) rfl (fun ls hl => ?_)
  obtain ⟨q1, hq1, h⟩ := o_bd_some h
  refine o_sim2 (AH := fun zz => o_At p l e rm_JA_fill_1 s m _ below meth c _ o_cls D A 5 6 [] (o_cw ad ca rt Sj T0 T1 Rd Pg Pt Mk Lk Ck Jd (Ld_mk zz.2 (Ld_rest Ld)) Pr) [(0, .ref (ad 52)), (1, .long x1), (3, .int zz.1), (4, .int (7:Int32))]) (AX := fun qq => o_At p l e rm_JA_fill_1 s m _ below meth c _ o_cls D A 5 22 [] (o_cw ad ca rt Sj T0 T1 Rd Pg Pt Mk Lk Ck Jd (Ld_mk qq.2.2 (Ld_rest Ld)) Pr) []) (fun zz qq h h0 h1 => w_JA_fill_1_b6_d hE C hDD n x1 (7:Int32) Sj T0 T1 Rd Pg Pt Mk Lk Ck Jd Ld Pr rt zz qq h h0 h1) n _ q1 hq1 ?_ _ _ _ hP hS (lv_sub hl [2, 3, 1, 0] rfl)
  intro H locs ls hP hS hl
  cases h
  exact o_rv C hP hS d_JA_fill_1_22
set_option maxHeartbeats 4000000 in
set_option maxRecDepth 100000 in
theorem w_Ld_append_b6_d {E : (Nat → Prop) → State → Heap → Prop} {p : Program} {l : Launch} {e : Env} {s : State} {m : MethodId} {args : Array Value} {below : List Frame} {meth : Method} {c : Code} {D : va_G} {ad kd sd vd xd : Nat → Nat} {ca : Nat → ClassId} {A : Nat → Prop} {Q : State → Prop} (hE : o_EK E kd sd vd xd) (C : o_Cx E p s m args meth c D o_cls (o_tys ca) "SchemaJudge$LongDivision" b_Ld_append none 7 cc_Ld_append A) (hDD : ∀ (rt : Nat) (Sj : SSJ) (T0 : STx) (T1 : STx) (Rd : SRd) (Pg : SPg) (Pt : SPt) (Mk : SMk) (Lk : SLk) (Ck : SCk) (Jd : SJd) (Ld : SLd) (Pr : SPr), va_D A (o_cw ad ca rt Sj T0 T1 Rd Pg Pt Mk Lk Ck Jd Ld Pr)) (n : Nat) (u6_Sj : SSJ) (u6_T0 : STx) (u6_T1 : STx) (u6_Rd : SRd) (u6_Pg : SPg) (u6_Pt : SPt) (u6_Mk : SMk) (u6_Lk : SLk) (u6_Ck : SCk) (u6_Jd : SJd) (u6_Ld : SLd) (u6_Pr : SPr) (u6_rt : Nat) (z : Int64 × Int32 × (Nat → Int64)) (q : Nat × Int64 × Int32 × (Nat → Int64)) (h : m_Ld_append_b6 n z = some q) (h0 : q.1 = 0 → o_At p l e rm_Ld_append s m args below meth c Q o_cls D A 7 6 [] (o_cw ad ca u6_rt u6_Sj u6_T0 u6_T1 u6_Rd u6_Pg u6_Pt u6_Mk u6_Lk u6_Ck u6_Jd (Ld_mk q.2.2.2 (Ld_rest u6_Ld)) u6_Pr) [(0, .ref (ad 52)), (2, .long q.2.1), (4, .int q.2.2.1)]) (h1 : q.1 ≠ 0 → (o_At p l e rm_Ld_append s m args below meth c Q o_cls D A 7 48 [] (o_cw ad ca u6_rt u6_Sj u6_T0 u6_T1 u6_Rd u6_Pg u6_Pt u6_Mk u6_Lk u6_Ck u6_Jd (Ld_mk q.2.2.2 (Ld_rest u6_Ld)) u6_Pr) [])) : o_At p l e rm_Ld_append s m args below meth c Q o_cls D A 7 6 [] (o_cw ad ca u6_rt u6_Sj u6_T0 u6_T1 u6_Rd u6_Pg u6_Pt u6_Mk u6_Lk u6_Ck u6_Jd (Ld_mk z.2.2 (Ld_rest u6_Ld)) u6_Pr) [(0, .ref (ad 52)), (2, .long z.1), (4, .int z.2.1)] := by
  unfold m_Ld_append_b6 at h
  intro H locs ls hP hS hl
  have C0 := C
  obtain ⟨hx, hb, -, -, -, hown, hts, hK, -, -⟩ := C0
  refine lv_iload hx hb d_Ld_append_6 (lv_at hl 2 rfl) ?_
  refine lv_aload_n hx hb d_Ld_append_8 rfl (lv_at hl 0 rfl) ?_
  refine va_alen (v := (7:Int32)) hx hb hK hP 52 41 cw_52 rfl rfl d_Ld_append_9 ?_
  refine lv_icmp_ge (tgt := 48) hx hb d_Ld_append_10 (by decide) (fun c1 => ?_) (fun c1 => ?_)
  · replace h := o_tt c1 h
    cases h
    exact h1 (Nat.succ_ne_zero 0) _ _ _ hP hS (lv_sub hl [] rfl)
  · replace h := o_ff c1 h
    refine lv_aload_n hx hb d_Ld_append_13 rfl (lv_at hl 0 rfl) ?_
    refine lv_iload hx hb d_Ld_append_14 (lv_at hl 2 rfl) ?_
    obtain ⟨g2, h⟩ := o_gd_some h
    refine o_lald (f := z.2.2) C hP 52 41 cw_52 rfl g2 d_Ld_append_16 ?_
    refine lv_ldc2 (v := (10:Int64)) hx hb hown (hts _ k_6_202) d_Ld_append_17 ?_
    refine lv_lmul hx hb d_Ld_append_20 ?_
    refine lv_lload_n hx hb d_Ld_append_21 rfl (lv_at hl 1 rfl) ?_
    refine lv_ladd hx hb d_Ld_append_22 ?_
    refine lv_topl (fun x5_23 ex5_23 => ?_)
    replace h := o_nm_at ex5_23 h
    refine lv_lstore (lv' := [(5, .long x5_23), (0, .ref (ad 52)), (2, .long z.1), (4, .int z.2.1)]) hx hb d_Ld_append_23 hl (by decide) rfl (fun ls hl => ?_)
    refine lv_lload hx hb d_Ld_append_25 (lv_at hl 0 rfl) ?_
    refine lv_ldc2 (v := (1000000000:Int64)) hx hb hown (hts _ k_6_203) d_Ld_append_27 ?_
    obtain ⟨g3, h⟩ := o_gd_some h
    refine lv_ldiv hx hb d_Ld_append_30 (o_nz_ne g3) ?_
    refine lv_topl (fun x2_31 ex2_31 => ?_)
    replace h := o_nm_at ex2_31 h
    refine lv_lstore_n (lv' := [(2, .long x2_31), (5, .long x5_23), (0, .ref (ad 52)), (4, .int z.2.1)]) hx hb d_Ld_append_31 rfl hl (by decide) rfl (fun ls hl => ?_)
    refine lv_aload_n hx hb d_Ld_append_32 rfl (lv_at hl 2 rfl) ?_
    refine lv_iload hx hb d_Ld_append_33 (lv_at hl 3 rfl) ?_
    refine lv_lload hx hb d_Ld_append_35 (lv_at hl 1 rfl) ?_
    refine lv_ldc2 (v := (1000000000:Int64)) hx hb hown (hts _ k_6_203) d_Ld_append_37 ?_
    obtain ⟨g4, h⟩ := o_gd_some h
    refine lv_lrem hx hb d_Ld_append_40 (o_nz_ne g4) ?_
    obtain ⟨g5, h⟩ := o_gd_some h
    refine o_last (f := z.2.2) (w1 := (o_cw ad ca u6_rt u6_Sj u6_T0 u6_T1 u6_Rd u6_Pg u6_Pt u6_Mk u6_Lk u6_Ck u6_Jd (Ld_mk (vp_updL z.2.2 z.2.1.toNatClampNeg (x5_23 - x5_23 / (1000000000:Int64) * (1000000000:Int64))) (Ld_rest u6_Ld)) u6_Pr)) C hP (hDD _ _ _ _ _ _ _ _ _ _ _ _ _) hS 52 41 cw_52 rfl g5 rfl d_Ld_append_41 (fun H locs hP hS => ?_)
    obtain ⟨x4_42, ex4_42⟩ : ∃ y : Int32, y = z.2.1 + (1:Int32) := ⟨_, rfl⟩
    replace h := o_nm_at ex4_42 h
    refine lv_iinc (v := x4_42) (lv' := [(4, .int x4_42), (2, .long x2_31), (5, .long x5_23), (0, .ref (ad 52))]) hx hb d_Ld_append_42 hl (k := 3) rfl (by rw [ex4_42]; rfl) (by decide) rfl (fun ls hl => ?_)
    refine lv_goto (tgt := 6) hx hb d_Ld_append_45 (by decide) ?_
    cases h
    exact h0 rfl _ _ _ hP hS (lv_sub hl [3, 1, 0] rfl)
set_option maxHeartbeats 4000000 in
set_option maxRecDepth 100000 in
theorem c_Ld_append_d {E : (Nat → Prop) → State → Heap → Prop} {D : va_G} {ad kd sd vd xd : Nat → Nat} {ca : Nat → ClassId} (hE : o_EK E kd sd vd xd) (l : Launch) (n : Nat) (x1 : Int32) (r0 : (Nat → Int64)) (Sj : SSJ) (T0 : STx) (T1 : STx) (Rd : SRd) (Pg : SPg) (Pt : SPt) (Mk : SMk) (Lk : SLk) (Ck : SCk) (Jd : SJd) (Ld : SLd) (Pr : SPr) (rt : Nat) {r : (Nat → Int64)} (h : m_Ld_append n x1 r0 = some r) : o_Cn E l D o_cls (o_tys ca) y_Ld_append cc_Ld_append rm_Ld_append [.ref (ad 52), .int x1] (o_cw ad ca rt Sj T0 T1 Rd Pg Pt Mk Lk Ck Jd (Ld_mk r0 (Ld_rest Ld)) Pr) (o_cw ad ca rt Sj T0 T1 Rd Pg Pt Mk Lk Ck Jd (Ld_mk r (Ld_rest Ld)) Pr) none := by
  refine o_Cn_of (by decide) (Nat.le_of_ble_eq_true rfl) ?_
  intro p e s m below meth c A ls C hD hP hS hl
  have hDD : ∀ (rt : Nat) (Sj : SSJ) (T0 : STx) (T1 : STx) (Rd : SRd) (Pg : SPg) (Pt : SPt) (Mk : SMk) (Lk : SLk) (Ck : SCk) (Jd : SJd) (Ld : SLd) (Pr : SPr), va_D A (o_cw ad ca rt Sj T0 T1 Rd Pg Pt Mk Lk Ck Jd Ld Pr) := fun _ _ _ _ _ _ _ _ _ _ _ _ _ => o_D_map hD rfl
  have hl : lv_has ls 7 [(0, .ref (ad 52)), (1, .int x1)] := hl
  unfold m_Ld_append at h
  have C0 := C
  obtain ⟨hx, hb, -, -, -, hown, hts, hK, -, -⟩ := C0
  refine lv_iload_n hx hb d_Ld_append_0 rfl (lv_at hl 1 rfl) ?_
  refine lv_i2l hx hb d_Ld_append_1 rfl ?_
  refine lv_topl (fun x2_2 ex2_2 => ?_)
  replace h := o_nm_at ex2_2 h
  refine lv_lstore_n (lv' := [(2, .long x2_2), (0, .ref (ad 52)), (1, .int x1)]) hx hb d_Ld_append_2 rfl hl (by decide) rfl (fun ls hl => ?_)
  refine lv_iconst (v := (0:Int32)) hx hb d_Ld_append_3 (by decide) ?_
  refine lv_istore (lv' := [(4, .int (0:Int32)), (2, .long x2_2), (0, .ref (ad 52)), (1, .int x1)]) hx hb d_Ld_append_4 hl (by decide) rfl (fun ls hl => ?_)
  obtain ⟨q1, hq1, h⟩ := o_bd_some h
  refine o_sim2 (AH := fun zz => o_At p l e rm_Ld_append s m _ below meth c _ o_cls D A 7 6 [] (o_cw ad ca rt Sj T0 T1 Rd Pg Pt Mk Lk Ck Jd (Ld_mk zz.2.2 (Ld_rest Ld)) Pr) [(0, .ref (ad 52)), (2, .long zz.1), (4, .int zz.2.1)]) (AX := fun qq => o_At p l e rm_Ld_append s m _ below meth c _ o_cls D A 7 48 [] (o_cw ad ca rt Sj T0 T1 Rd Pg Pt Mk Lk Ck Jd (Ld_mk qq.2.2.2 (Ld_rest Ld)) Pr) []) (fun zz qq h h0 h1 => w_Ld_append_b6_d hE C hDD n Sj T0 T1 Rd Pg Pt Mk Lk Ck Jd Ld Pr rt zz qq h h0 h1) n _ q1 hq1 ?_ _ _ _ hP hS (lv_sub hl [2, 1, 0] rfl)
  intro H locs ls hP hS hl
  cases h
  exact o_rv C hP hS d_Ld_append_48
set_option maxHeartbeats 4000000 in
set_option maxRecDepth 100000 in
theorem w_JA_fill_1_b6_r {E : (Nat → Prop) → State → Heap → Prop} {p : Program} {l : Launch} {e : Env} {s : State} {m : MethodId} {args : Array Value} {below : List Frame} {meth : Method} {c : Code} {D : va_G} {ad kd sd vd xd : Nat → Nat} {ca : Nat → ClassId} {A : Nat → Prop} {Q : State → Prop} (hE : o_EK E kd sd vd xd) (C : o_Cx E p s m args meth c D o_cls (o_tys ca) "java/util/Arrays" b_JA_fill_1 none 5 cc_JA_fill_1 A) (hDD : ∀ (rt : Nat) (Sj : SSJ) (T0 : STx) (T1 : STx) (Rd : SRd) (Pg : SPg) (Pt : SPt) (Mk : SMk) (Lk : SLk) (Ck : SCk) (Jd : SJd) (Ld : SLd) (Pr : SPr), va_D A (o_cw ad ca rt Sj T0 T1 Rd Pg Pt Mk Lk Ck Jd Ld Pr)) (n : Nat) (u6_x1 : Int64) (u6_x4 : Int32) (u6_Sj : SSJ) (u6_T0 : STx) (u6_T1 : STx) (u6_Rd : SRd) (u6_Pg : SPg) (u6_Pt : SPt) (u6_Mk : SMk) (u6_Lk : SLk) (u6_Ck : SCk) (u6_Jd : SJd) (u6_Ld : SLd) (u6_Pr : SPr) (u6_rt : Nat) (z : Int32 × (Nat → Int64)) (q : Nat × Int32 × (Nat → Int64)) (h : m_JA_fill_1_b6 n u6_x1 u6_x4 z = some q) (h0 : q.1 = 0 → o_At p l e rm_JA_fill_1 s m args below meth c Q o_cls D A 5 6 [] (o_cw ad ca u6_rt u6_Sj u6_T0 u6_T1 u6_Rd u6_Pg u6_Pt u6_Mk u6_Lk u6_Ck u6_Jd (Ld_mk (Ld_divisor u6_Ld) q.2.2) u6_Pr) [(0, .ref (ad 53)), (1, .long u6_x1), (3, .int q.2.1), (4, .int u6_x4)]) (h1 : q.1 ≠ 0 → (o_At p l e rm_JA_fill_1 s m args below meth c Q o_cls D A 5 22 [] (o_cw ad ca u6_rt u6_Sj u6_T0 u6_T1 u6_Rd u6_Pg u6_Pt u6_Mk u6_Lk u6_Ck u6_Jd (Ld_mk (Ld_divisor u6_Ld) q.2.2) u6_Pr) [])) : o_At p l e rm_JA_fill_1 s m args below meth c Q o_cls D A 5 6 [] (o_cw ad ca u6_rt u6_Sj u6_T0 u6_T1 u6_Rd u6_Pg u6_Pt u6_Mk u6_Lk u6_Ck u6_Jd (Ld_mk (Ld_divisor u6_Ld) z.2) u6_Pr) [(0, .ref (ad 53)), (1, .long u6_x1), (3, .int z.1), (4, .int u6_x4)] := by
  unfold m_JA_fill_1_b6 at h
  intro H locs ls hP hS hl
  have C0 := C
  obtain ⟨hx, hb, -, -, -, hown, hts, hK, -, -⟩ := C0
  refine lv_iload_n hx hb d_JA_fill_1_6 rfl (lv_at hl 2 rfl) ?_
  refine lv_iload hx hb d_JA_fill_1_7 (lv_at hl 3 rfl) ?_
  refine lv_icmp_ge (tgt := 22) hx hb d_JA_fill_1_9 (by decide) (fun c1 => ?_) (fun c1 => ?_)
  · replace h := o_tt c1 h
    cases h
    exact h1 (Nat.succ_ne_zero 0) _ _ _ hP hS (lv_sub hl [] rfl)
  · replace h := o_ff c1 h
    refine lv_aload_n hx hb d_JA_fill_1_12 rfl (lv_at hl 0 rfl) ?_
    refine lv_iload_n hx hb d_JA_fill_1_13 rfl (lv_at hl 2 rfl) ?_
    refine lv_lload_n hx hb d_JA_fill_1_14 rfl (lv_at hl 1 rfl) ?_
    obtain ⟨g2, h⟩ := o_gd_some h
    refine o_last (f := z.2) (w1 := (o_cw ad ca u6_rt u6_Sj u6_T0 u6_T1 u6_Rd u6_Pg u6_Pt u6_Mk u6_Lk u6_Ck u6_Jd (Ld_mk (Ld_divisor u6_Ld) (vp_updL z.2 z.1.toNatClampNeg u6_x1)) u6_Pr)) C hP (hDD _ _ _ _ _ _ _ _ _ _ _ _ _) hS 53 42 cw_53 rfl g2 rfl d_JA_fill_1_15 (fun H locs hP hS => ?_)
    obtain ⟨x3_16, ex3_16⟩ : ∃ y : Int32, y = z.1 + (1:Int32) := ⟨_, rfl⟩
    replace h := o_nm_at ex3_16 h
    refine lv_iinc (v := x3_16) (lv' := [(3, .int x3_16), (0, .ref (ad 53)), (1, .long u6_x1), (4, .int u6_x4)]) hx hb d_JA_fill_1_16 hl (k := 2) rfl (by rw [ex3_16]; rfl) (by decide) rfl (fun ls hl => ?_)
    refine lv_goto (tgt := 6) hx hb d_JA_fill_1_19 (by decide) ?_
    cases h
    exact h0 rfl _ _ _ hP hS (lv_sub hl [1, 2, 0, 3] rfl)
set_option maxHeartbeats 4000000 in
set_option maxRecDepth 100000 in
theorem c_JA_fill_1_r {E : (Nat → Prop) → State → Heap → Prop} {D : va_G} {ad kd sd vd xd : Nat → Nat} {ca : Nat → ClassId} (hE : o_EK E kd sd vd xd) (l : Launch) (n : Nat) (x1 : Int64) (r0 : (Nat → Int64)) (Sj : SSJ) (T0 : STx) (T1 : STx) (Rd : SRd) (Pg : SPg) (Pt : SPt) (Mk : SMk) (Lk : SLk) (Ck : SCk) (Jd : SJd) (Ld : SLd) (Pr : SPr) (rt : Nat) {r : (Nat → Int64)} (h : m_JA_fill_1 n x1 r0 = some r) : o_Cn E l D o_cls (o_tys ca) y_JA_fill_1 cc_JA_fill_1 rm_JA_fill_1 [.ref (ad 53), .long x1] (o_cw ad ca rt Sj T0 T1 Rd Pg Pt Mk Lk Ck Jd (Ld_mk (Ld_divisor Ld) r0) Pr) (o_cw ad ca rt Sj T0 T1 Rd Pg Pt Mk Lk Ck Jd (Ld_mk (Ld_divisor Ld) r) Pr) none := by
  refine o_Cn_of (by decide) (Nat.le_of_ble_eq_true rfl) ?_
  intro p e s m below meth c A ls C hD hP hS hl
  have hDD : ∀ (rt : Nat) (Sj : SSJ) (T0 : STx) (T1 : STx) (Rd : SRd) (Pg : SPg) (Pt : SPt) (Mk : SMk) (Lk : SLk) (Ck : SCk) (Jd : SJd) (Ld : SLd) (Pr : SPr), va_D A (o_cw ad ca rt Sj T0 T1 Rd Pg Pt Mk Lk Ck Jd Ld Pr) := fun _ _ _ _ _ _ _ _ _ _ _ _ _ => o_D_map hD rfl
  have hl : lv_has ls 5 [(0, .ref (ad 53)), (1, .long x1)] := hl
  unfold m_JA_fill_1 at h
  have C0 := C
  obtain ⟨hx, hb, -, -, -, hown, hts, hK, -, -⟩ := C0
  refine lv_iconst (v := (0:Int32)) hx hb d_JA_fill_1_0 (by decide) ?_
  refine lv_istore_n (lv' := [(3, .int (0:Int32)), (0, .ref (ad 53)), (1, .long x1)]) hx hb d_JA_fill_1_1 rfl hl (by decide) rfl (fun ls hl => ?_)
  refine lv_aload_n hx hb d_JA_fill_1_2 rfl (lv_at hl 1 rfl) ?_
  refine va_alen (v := (7:Int32)) hx hb hK hP 53 42 cw_53 rfl rfl d_JA_fill_1_3 ?_
  refine lv_istore (lv' := [(4, .int (7:Int32)), (3, .int (0:Int32)), (0, .ref (ad 53)), (1, .long x1)]) hx hb d_JA_fill_1_4 hl (by decide) rfl (fun ls hl => ?_)
  obtain ⟨q1, hq1, h⟩ := o_bd_some h
  refine o_sim2 (AH := fun zz => o_At p l e rm_JA_fill_1 s m _ below meth c _ o_cls D A 5 6 [] (o_cw ad ca rt Sj T0 T1 Rd Pg Pt Mk Lk Ck Jd (Ld_mk (Ld_divisor Ld) zz.2) Pr) [(0, .ref (ad 53)), (1, .long x1), (3, .int zz.1), (4, .int (7:Int32))]) (AX := fun qq => o_At p l e rm_JA_fill_1 s m _ below meth c _ o_cls D A 5 22 [] (o_cw ad ca rt Sj T0 T1 Rd Pg Pt Mk Lk Ck Jd (Ld_mk (Ld_divisor Ld) qq.2.2) Pr) []) (fun zz qq h h0 h1 => w_JA_fill_1_b6_r hE C hDD n x1 (7:Int32) Sj T0 T1 Rd Pg Pt Mk Lk Ck Jd Ld Pr rt zz qq h h0 h1) n _ q1 hq1 ?_ _ _ _ hP hS (lv_sub hl [2, 3, 1, 0] rfl)
  intro H locs ls hP hS hl
  cases h
  exact o_rv C hP hS d_JA_fill_1_22
set_option maxHeartbeats 4000000 in
set_option maxRecDepth 100000 in
theorem w_Ld_append_b6_r {E : (Nat → Prop) → State → Heap → Prop} {p : Program} {l : Launch} {e : Env} {s : State} {m : MethodId} {args : Array Value} {below : List Frame} {meth : Method} {c : Code} {D : va_G} {ad kd sd vd xd : Nat → Nat} {ca : Nat → ClassId} {A : Nat → Prop} {Q : State → Prop} (hE : o_EK E kd sd vd xd) (C : o_Cx E p s m args meth c D o_cls (o_tys ca) "SchemaJudge$LongDivision" b_Ld_append none 7 cc_Ld_append A) (hDD : ∀ (rt : Nat) (Sj : SSJ) (T0 : STx) (T1 : STx) (Rd : SRd) (Pg : SPg) (Pt : SPt) (Mk : SMk) (Lk : SLk) (Ck : SCk) (Jd : SJd) (Ld : SLd) (Pr : SPr), va_D A (o_cw ad ca rt Sj T0 T1 Rd Pg Pt Mk Lk Ck Jd Ld Pr)) (n : Nat) (u6_Sj : SSJ) (u6_T0 : STx) (u6_T1 : STx) (u6_Rd : SRd) (u6_Pg : SPg) (u6_Pt : SPt) (u6_Mk : SMk) (u6_Lk : SLk) (u6_Ck : SCk) (u6_Jd : SJd) (u6_Ld : SLd) (u6_Pr : SPr) (u6_rt : Nat) (z : Int64 × Int32 × (Nat → Int64)) (q : Nat × Int64 × Int32 × (Nat → Int64)) (h : m_Ld_append_b6 n z = some q) (h0 : q.1 = 0 → o_At p l e rm_Ld_append s m args below meth c Q o_cls D A 7 6 [] (o_cw ad ca u6_rt u6_Sj u6_T0 u6_T1 u6_Rd u6_Pg u6_Pt u6_Mk u6_Lk u6_Ck u6_Jd (Ld_mk (Ld_divisor u6_Ld) q.2.2.2) u6_Pr) [(0, .ref (ad 53)), (2, .long q.2.1), (4, .int q.2.2.1)]) (h1 : q.1 ≠ 0 → (o_At p l e rm_Ld_append s m args below meth c Q o_cls D A 7 48 [] (o_cw ad ca u6_rt u6_Sj u6_T0 u6_T1 u6_Rd u6_Pg u6_Pt u6_Mk u6_Lk u6_Ck u6_Jd (Ld_mk (Ld_divisor u6_Ld) q.2.2.2) u6_Pr) [])) : o_At p l e rm_Ld_append s m args below meth c Q o_cls D A 7 6 [] (o_cw ad ca u6_rt u6_Sj u6_T0 u6_T1 u6_Rd u6_Pg u6_Pt u6_Mk u6_Lk u6_Ck u6_Jd (Ld_mk (Ld_divisor u6_Ld) z.2.2) u6_Pr) [(0, .ref (ad 53)), (2, .long z.1), (4, .int z.2.1)] := by
  unfold m_Ld_append_b6 at h
  intro H locs ls hP hS hl
  have C0 := C
  obtain ⟨hx, hb, -, -, -, hown, hts, hK, -, -⟩ := C0
  refine lv_iload hx hb d_Ld_append_6 (lv_at hl 2 rfl) ?_
  refine lv_aload_n hx hb d_Ld_append_8 rfl (lv_at hl 0 rfl) ?_
  refine va_alen (v := (7:Int32)) hx hb hK hP 53 42 cw_53 rfl rfl d_Ld_append_9 ?_
  refine lv_icmp_ge (tgt := 48) hx hb d_Ld_append_10 (by decide) (fun c1 => ?_) (fun c1 => ?_)
  · replace h := o_tt c1 h
    cases h
    exact h1 (Nat.succ_ne_zero 0) _ _ _ hP hS (lv_sub hl [] rfl)
  · replace h := o_ff c1 h
    refine lv_aload_n hx hb d_Ld_append_13 rfl (lv_at hl 0 rfl) ?_
    refine lv_iload hx hb d_Ld_append_14 (lv_at hl 2 rfl) ?_
    obtain ⟨g2, h⟩ := o_gd_some h
    refine o_lald (f := z.2.2) C hP 53 42 cw_53 rfl g2 d_Ld_append_16 ?_
    refine lv_ldc2 (v := (10:Int64)) hx hb hown (hts _ k_6_202) d_Ld_append_17 ?_
    refine lv_lmul hx hb d_Ld_append_20 ?_
    refine lv_lload_n hx hb d_Ld_append_21 rfl (lv_at hl 1 rfl) ?_
    refine lv_ladd hx hb d_Ld_append_22 ?_
    refine lv_topl (fun x5_23 ex5_23 => ?_)
    replace h := o_nm_at ex5_23 h
    refine lv_lstore (lv' := [(5, .long x5_23), (0, .ref (ad 53)), (2, .long z.1), (4, .int z.2.1)]) hx hb d_Ld_append_23 hl (by decide) rfl (fun ls hl => ?_)
    refine lv_lload hx hb d_Ld_append_25 (lv_at hl 0 rfl) ?_
    refine lv_ldc2 (v := (1000000000:Int64)) hx hb hown (hts _ k_6_203) d_Ld_append_27 ?_
    obtain ⟨g3, h⟩ := o_gd_some h
    refine lv_ldiv hx hb d_Ld_append_30 (o_nz_ne g3) ?_
    refine lv_topl (fun x2_31 ex2_31 => ?_)
    replace h := o_nm_at ex2_31 h
    refine lv_lstore_n (lv' := [(2, .long x2_31), (5, .long x5_23), (0, .ref (ad 53)), (4, .int z.2.1)]) hx hb d_Ld_append_31 rfl hl (by decide) rfl (fun ls hl => ?_)
    refine lv_aload_n hx hb d_Ld_append_32 rfl (lv_at hl 2 rfl) ?_
    refine lv_iload hx hb d_Ld_append_33 (lv_at hl 3 rfl) ?_
    refine lv_lload hx hb d_Ld_append_35 (lv_at hl 1 rfl) ?_
    refine lv_ldc2 (v := (1000000000:Int64)) hx hb hown (hts _ k_6_203) d_Ld_append_37 ?_
    obtain ⟨g4, h⟩ := o_gd_some h
    refine lv_lrem hx hb d_Ld_append_40 (o_nz_ne g4) ?_
    obtain ⟨g5, h⟩ := o_gd_some h
    refine o_last (f := z.2.2) (w1 := (o_cw ad ca u6_rt u6_Sj u6_T0 u6_T1 u6_Rd u6_Pg u6_Pt u6_Mk u6_Lk u6_Ck u6_Jd (Ld_mk (Ld_divisor u6_Ld) (vp_updL z.2.2 z.2.1.toNatClampNeg (x5_23 - x5_23 / (1000000000:Int64) * (1000000000:Int64)))) u6_Pr)) C hP (hDD _ _ _ _ _ _ _ _ _ _ _ _ _) hS 53 42 cw_53 rfl g5 rfl d_Ld_append_41 (fun H locs hP hS => ?_)
    obtain ⟨x4_42, ex4_42⟩ : ∃ y : Int32, y = z.2.1 + (1:Int32) := ⟨_, rfl⟩
    replace h := o_nm_at ex4_42 h
    refine lv_iinc (v := x4_42) (lv' := [(4, .int x4_42), (2, .long x2_31), (5, .long x5_23), (0, .ref (ad 53))]) hx hb d_Ld_append_42 hl (k := 3) rfl (by rw [ex4_42]; rfl) (by decide) rfl (fun ls hl => ?_)
    refine lv_goto (tgt := 6) hx hb d_Ld_append_45 (by decide) ?_
    cases h
    exact h0 rfl _ _ _ hP hS (lv_sub hl [3, 1, 0] rfl)
set_option maxHeartbeats 4000000 in
set_option maxRecDepth 100000 in
theorem c_Ld_append_r {E : (Nat → Prop) → State → Heap → Prop} {D : va_G} {ad kd sd vd xd : Nat → Nat} {ca : Nat → ClassId} (hE : o_EK E kd sd vd xd) (l : Launch) (n : Nat) (x1 : Int32) (r0 : (Nat → Int64)) (Sj : SSJ) (T0 : STx) (T1 : STx) (Rd : SRd) (Pg : SPg) (Pt : SPt) (Mk : SMk) (Lk : SLk) (Ck : SCk) (Jd : SJd) (Ld : SLd) (Pr : SPr) (rt : Nat) {r : (Nat → Int64)} (h : m_Ld_append n x1 r0 = some r) : o_Cn E l D o_cls (o_tys ca) y_Ld_append cc_Ld_append rm_Ld_append [.ref (ad 53), .int x1] (o_cw ad ca rt Sj T0 T1 Rd Pg Pt Mk Lk Ck Jd (Ld_mk (Ld_divisor Ld) r0) Pr) (o_cw ad ca rt Sj T0 T1 Rd Pg Pt Mk Lk Ck Jd (Ld_mk (Ld_divisor Ld) r) Pr) none := by
  refine o_Cn_of (by decide) (Nat.le_of_ble_eq_true rfl) ?_
  intro p e s m below meth c A ls C hD hP hS hl
  have hDD : ∀ (rt : Nat) (Sj : SSJ) (T0 : STx) (T1 : STx) (Rd : SRd) (Pg : SPg) (Pt : SPt) (Mk : SMk) (Lk : SLk) (Ck : SCk) (Jd : SJd) (Ld : SLd) (Pr : SPr), va_D A (o_cw ad ca rt Sj T0 T1 Rd Pg Pt Mk Lk Ck Jd Ld Pr) := fun _ _ _ _ _ _ _ _ _ _ _ _ _ => o_D_map hD rfl
  have hl : lv_has ls 7 [(0, .ref (ad 53)), (1, .int x1)] := hl
  unfold m_Ld_append at h
  have C0 := C
  obtain ⟨hx, hb, -, -, -, hown, hts, hK, -, -⟩ := C0
  refine lv_iload_n hx hb d_Ld_append_0 rfl (lv_at hl 1 rfl) ?_
  refine lv_i2l hx hb d_Ld_append_1 rfl ?_
  refine lv_topl (fun x2_2 ex2_2 => ?_)
  replace h := o_nm_at ex2_2 h
  refine lv_lstore_n (lv' := [(2, .long x2_2), (0, .ref (ad 53)), (1, .int x1)]) hx hb d_Ld_append_2 rfl hl (by decide) rfl (fun ls hl => ?_)
  refine lv_iconst (v := (0:Int32)) hx hb d_Ld_append_3 (by decide) ?_
  refine lv_istore (lv' := [(4, .int (0:Int32)), (2, .long x2_2), (0, .ref (ad 53)), (1, .int x1)]) hx hb d_Ld_append_4 hl (by decide) rfl (fun ls hl => ?_)
  obtain ⟨q1, hq1, h⟩ := o_bd_some h
  refine o_sim2 (AH := fun zz => o_At p l e rm_Ld_append s m _ below meth c _ o_cls D A 7 6 [] (o_cw ad ca rt Sj T0 T1 Rd Pg Pt Mk Lk Ck Jd (Ld_mk (Ld_divisor Ld) zz.2.2) Pr) [(0, .ref (ad 53)), (2, .long zz.1), (4, .int zz.2.1)]) (AX := fun qq => o_At p l e rm_Ld_append s m _ below meth c _ o_cls D A 7 48 [] (o_cw ad ca rt Sj T0 T1 Rd Pg Pt Mk Lk Ck Jd (Ld_mk (Ld_divisor Ld) qq.2.2.2) Pr) []) (fun zz qq h h0 h1 => w_Ld_append_b6_r hE C hDD n Sj T0 T1 Rd Pg Pt Mk Lk Ck Jd Ld Pr rt zz qq h h0 h1) n _ q1 hq1 ?_ _ _ _ hP hS (lv_sub hl [2, 1, 0] rfl)
  intro H locs ls hP hS hl
  cases h
  exact o_rv C hP hS d_Ld_append_48
set_option maxHeartbeats 4000000 in
set_option maxRecDepth 100000 in
theorem w_Ld_divides_b43_01 {E : (Nat → Prop) → State → Heap → Prop} {p : Program} {l : Launch} {e : Env} {s : State} {m : MethodId} {args : Array Value} {below : List Frame} {meth : Method} {c : Code} {D : va_G} {ad kd sd vd xd : Nat → Nat} {ca : Nat → ClassId} {A : Nat → Prop} {Q : State → Prop} (hE : o_EK E kd sd vd xd) (C : o_Cx E p s m args meth c D o_cls (o_tys ca) "SchemaJudge$LongDivision" b_Ld_divides (some .boolean) 8 cc_Ld_divides A) (hDD : ∀ (rt : Nat) (Sj : SSJ) (T0 : STx) (T1 : STx) (Rd : SRd) (Pg : SPg) (Pt : SPt) (Mk : SMk) (Lk : SLk) (Ck : SCk) (Jd : SJd) (Ld : SLd) (Pr : SPr), va_D A (o_cw ad ca rt Sj T0 T1 Rd Pg Pt Mk Lk Ck Jd Ld Pr)) (n : Nat) (u43_x2 : Int32) (u43_x4 : Int32) (u43_x5 : Int32) (u43_a1 : STx) (u43_a3 : STx) (u43_Sj : SSJ) (u43_Rd : SRd) (u43_Pg : SPg) (u43_Pt : SPt) (u43_Mk : SMk) (u43_Lk : SLk) (u43_Ck : SCk) (u43_Jd : SJd) (u43_Pr : SPr) (u43_rt : Nat) (z : Int32 × SLd) (q : Nat × Int32 × SLd) (h : m_Ld_divides_b43 n u43_x2 u43_x4 u43_x5 u43_a1 u43_a3 z = some q) (h0 : q.1 = 0 → o_At p l e rm_Ld_divides s m args below meth c Q o_cls D A 8 43 [] (o_cw ad ca u43_rt u43_Sj u43_a1 u43_a3 u43_Rd u43_Pg u43_Pt u43_Mk u43_Lk u43_Ck u43_Jd q.2.2 u43_Pr) [(0, .ref (ad 51)), (1, .ref (ad 1)), (2, .int u43_x2), (3, .ref (ad 12)), (4, .int u43_x4), (5, .int u43_x5), (6, .int q.2.1)]) (h1 : q.1 ≠ 0 → (o_At p l e rm_Ld_divides s m args below meth c Q o_cls D A 8 73 [] (o_cw ad ca u43_rt u43_Sj u43_a1 u43_a3 u43_Rd u43_Pg u43_Pt u43_Mk u43_Lk u43_Ck u43_Jd q.2.2 u43_Pr) [(0, .ref (ad 51)), (3, .ref (ad 12)), (4, .int u43_x4), (5, .int u43_x5)])) : o_At p l e rm_Ld_divides s m args below meth c Q o_cls D A 8 43 [] (o_cw ad ca u43_rt u43_Sj u43_a1 u43_a3 u43_Rd u43_Pg u43_Pt u43_Mk u43_Lk u43_Ck u43_Jd z.2 u43_Pr) [(0, .ref (ad 51)), (1, .ref (ad 1)), (2, .int u43_x2), (3, .ref (ad 12)), (4, .int u43_x4), (5, .int u43_x5), (6, .int z.1)] := by
  unfold m_Ld_divides_b43 at h
  intro H locs ls hP hS hl
  have C0 := C
  obtain ⟨hx, hb, -, -, -, hown, hts, hK, -, -⟩ := C0
  refine lv_iload hx hb d_Ld_divides_43 (lv_at hl 6 rfl) ?_
  refine lv_aload_n hx hb d_Ld_divides_45 rfl (lv_at hl 1 rfl) ?_
  refine lv_iload_n hx hb d_Ld_divides_46 rfl (lv_at hl 2 rfl) ?_
  obtain ⟨q5, hq5, h⟩ := o_bd_some h
  refine o_V (st1 := [.int q5, .int z.1]) (w1 := (o_cw ad ca u43_rt u43_Sj u43_a1 u43_a3 u43_Rd u43_Pg u43_Pt u43_Mk u43_Lk u43_Ck u43_Jd z.2 u43_Pr)) hE.1 C (c_Tx_size_0 hE l u43_x2 u43_a1 u43_Sj u43_a3 u43_Rd u43_Pg u43_Pt u43_Mk u43_Lk u43_Ck u43_Jd z.2 u43_Pr u43_rt hq5) hP (hDD _ _ _ _ _ _ _ _ _ _ _ _ _) hS hl.1 rfl cw_1 k_6_194 k_3_215 k_3_216 k_1_2 k_3_217 hv_Tx_size rfl rfl ⟨(Nat.le_of_ble_eq_true rfl), (Nat.le_of_ble_eq_true rfl)⟩ rfl (Nat.le_of_ble_eq_true rfl) ⟨Nat.zero_le _, Nat.zero_le _⟩ rfl d_Ld_divides_47 (fun H locs hP hS => ?_)
  refine lv_icmp_ge (tgt := 73) hx hb d_Ld_divides_50 (by decide) (fun c3 => ?_) (fun c3 => ?_)
  · replace h := o_tt c3 h
    cases h
    exact h1 (Nat.succ_ne_zero 0) _ _ _ hP hS (lv_sub hl [0, 3, 4, 5] rfl)
  · replace h := o_ff c3 h
    refine lv_aload_n hx hb d_Ld_divides_53 rfl (lv_at hl 0 rfl) ?_
    refine o_get (v := .ref (ad 52)) C in_Ld hP 51 cw_51 rfl 0 (by decide) k_2_50 rfl rfl d_Ld_divides_54 ?_
    refine lv_aload_n hx hb d_Ld_divides_57 rfl (lv_at hl 1 rfl) ?_
    refine lv_iload_n hx hb d_Ld_divides_58 rfl (lv_at hl 2 rfl) ?_
    refine lv_iload hx hb d_Ld_divides_59 (lv_at hl 6 rfl) ?_
    obtain ⟨q6, hq6, h⟩ := o_bd_some h
    refine o_V (st1 := [.int q6, .ref (ad 52)]) (w1 := (o_cw ad ca u43_rt u43_Sj u43_a1 u43_a3 u43_Rd u43_Pg u43_Pt u43_Mk u43_Lk u43_Ck u43_Jd z.2 u43_Pr)) hE.1 C (c_Tx_cell_0 hE l u43_x2 z.1 u43_a1 u43_Sj u43_a3 u43_Rd u43_Pg u43_Pt u43_Mk u43_Lk u43_Ck u43_Jd z.2 u43_Pr u43_rt hq6) hP (hDD _ _ _ _ _ _ _ _ _ _ _ _ _) hS hl.1 rfl cw_1 k_6_198 k_4_117 k_4_118 k_1_2 k_4_119 hv_Tx_cell rfl rfl ⟨(Nat.le_of_ble_eq_true rfl), (Nat.le_of_ble_eq_true rfl)⟩ rfl (Nat.le_of_ble_eq_true rfl) ⟨Nat.zero_le _, Nat.zero_le _⟩ rfl d_Ld_divides_61 (fun H locs hP hS => ?_)
    obtain ⟨q7, hq7, h⟩ := o_bd_some h
    refine o_S (st1 := []) (w1 := (o_cw ad ca u43_rt u43_Sj u43_a1 u43_a3 u43_Rd u43_Pg u43_Pt u43_Mk u43_Lk u43_Ck u43_Jd (Ld_mk q7 (Ld_rest z.2)) u43_Pr)) hE.1 C (c_Ld_append_d hE l n q6 (Ld_divisor z.2) u43_Sj u43_a1 u43_a3 u43_Rd u43_Pg u43_Pt u43_Mk u43_Lk u43_Ck u43_Jd z.2 u43_Pr u43_rt hq7) hP (hDD _ _ _ _ _ _ _ _ _ _ _ _ _) hS hl.1 k_6_199 k_6_200 k_1_10 k_6_201 hs_Ld_append rfl rfl ⟨(Nat.le_of_ble_eq_true rfl), (Nat.le_of_ble_eq_true rfl)⟩ rfl (Nat.le_of_ble_eq_true rfl) ⟨Nat.zero_le _, Nat.zero_le _⟩ rfl d_Ld_divides_64 (fun H locs hP hS => ?_)
    obtain ⟨x6_67, ex6_67⟩ : ∃ y : Int32, y = z.1 + (1:Int32) := ⟨_, rfl⟩
    replace h := o_nm_at ex6_67 h
    refine lv_iinc (v := x6_67) (lv' := [(6, .int x6_67), (0, .ref (ad 51)), (1, .ref (ad 1)), (2, .int u43_x2), (3, .ref (ad 12)), (4, .int u43_x4), (5, .int u43_x5)]) hx hb d_Ld_divides_67 hl (k := 6) rfl (by rw [ex6_67]; rfl) (by decide) rfl (fun ls hl => ?_)
    refine lv_goto (tgt := 43) hx hb d_Ld_divides_70 (by decide) ?_
    cases h
    exact h0 rfl _ _ _ hP hS (lv_sub hl [1, 2, 3, 4, 5, 6, 0] rfl)
set_option maxHeartbeats 4000000 in
set_option maxRecDepth 100000 in
theorem w_Ld_divides_b101_01 {E : (Nat → Prop) → State → Heap → Prop} {p : Program} {l : Launch} {e : Env} {s : State} {m : MethodId} {args : Array Value} {below : List Frame} {meth : Method} {c : Code} {D : va_G} {ad kd sd vd xd : Nat → Nat} {ca : Nat → ClassId} {A : Nat → Prop} {Q : State → Prop} (hE : o_EK E kd sd vd xd) (C : o_Cx E p s m args meth c D o_cls (o_tys ca) "SchemaJudge$LongDivision" b_Ld_divides (some .boolean) 8 cc_Ld_divides A) (hDD : ∀ (rt : Nat) (Sj : SSJ) (T0 : STx) (T1 : STx) (Rd : SRd) (Pg : SPg) (Pt : SPt) (Mk : SMk) (Lk : SLk) (Ck : SCk) (Jd : SJd) (Ld : SLd) (Pr : SPr), va_D A (o_cw ad ca rt Sj T0 T1 Rd Pg Pt Mk Lk Ck Jd Ld Pr)) (n : Nat) (u101_x4 : Int32) (u101_x6 : Int32) (u101_a1 : STx) (u101_a3 : STx) (u101_Sj : SSJ) (u101_Rd : SRd) (u101_Pg : SPg) (u101_Pt : SPt) (u101_Mk : SMk) (u101_Lk : SLk) (u101_Ck : SCk) (u101_Jd : SJd) (u101_Pr : SPr) (u101_rt : Nat) (z : Int32 × SLd) (q : Nat × Int32 × SLd) (h : m_Ld_divides_b101 n u101_x4 u101_x6 u101_a1 u101_a3 z = some q) (h0 : q.1 = 0 → o_At p l e rm_Ld_divides s m args below meth c Q o_cls D A 8 101 [] (o_cw ad ca u101_rt u101_Sj u101_a1 u101_a3 u101_Rd u101_Pg u101_Pt u101_Mk u101_Lk u101_Ck u101_Jd q.2.2 u101_Pr) [(0, .ref (ad 51)), (3, .ref (ad 12)), (4, .int u101_x4), (6, .int u101_x6), (7, .int q.2.1)]) (h1 : q.1 ≠ 0 → (o_At p l e rm_Ld_divides s m args below meth c Q o_cls D A 8 133 [] (o_cw ad ca u101_rt u101_Sj u101_a1 u101_a3 u101_Rd u101_Pg u101_Pt u101_Mk u101_Lk u101_Ck u101_Jd q.2.2 u101_Pr) [(0, .ref (ad 51))])) : o_At p l e rm_Ld_divides s m args below meth c Q o_cls D A 8 101 [] (o_cw ad ca u101_rt u101_Sj u101_a1 u101_a3 u101_Rd u101_Pg u101_Pt u101_Mk u101_Lk u101_Ck u101_Jd z.2 u101_Pr) [(0, .ref (ad 51)), (3, .ref (ad 12)), (4, .int u101_x4), (6, .int u101_x6), (7, .int z.1)] := by
  unfold m_Ld_divides_b101 at h
  intro H locs ls hP hS hl
  have C0 := C
  obtain ⟨hx, hb, -, -, -, hown, hts, hK, -, -⟩ := C0
  refine lv_iload hx hb d_Ld_divides_101 (lv_at hl 4 rfl) ?_
  refine lv_iload hx hb d_Ld_divides_103 (lv_at hl 3 rfl) ?_
  refine lv_icmp_ge (tgt := 133) hx hb d_Ld_divides_105 (by decide) (fun c4 => ?_) (fun c4 => ?_)
  · replace h := o_tt c4 h
    cases h
    exact h1 (Nat.succ_ne_zero 0) _ _ _ hP hS (lv_sub hl [0] rfl)
  · replace h := o_ff c4 h
    refine lv_aload_n hx hb d_Ld_divides_108 rfl (lv_at hl 0 rfl) ?_
    refine o_get (v := .ref (ad 53)) C in_Ld hP 51 cw_51 rfl 1 (by decide) k_2_51 rfl rfl d_Ld_divides_109 ?_
    refine lv_aload_n hx hb d_Ld_divides_112 rfl (lv_at hl 1 rfl) ?_
    refine lv_iload hx hb d_Ld_divides_113 (lv_at hl 2 rfl) ?_
    refine lv_iload hx hb d_Ld_divides_115 (lv_at hl 4 rfl) ?_
    obtain ⟨q11, hq11, h⟩ := o_bd_some h
    refine o_V (st1 := [.int q11, .ref (ad 53)]) (w1 := (o_cw ad ca u101_rt u101_Sj u101_a1 u101_a3 u101_Rd u101_Pg u101_Pt u101_Mk u101_Lk u101_Ck u101_Jd z.2 u101_Pr)) hE.1 C (c_Tx_cell_1 hE l u101_x4 z.1 u101_a3 u101_Sj u101_a1 u101_Rd u101_Pg u101_Pt u101_Mk u101_Lk u101_Ck u101_Jd z.2 u101_Pr u101_rt hq11) hP (hDD _ _ _ _ _ _ _ _ _ _ _ _ _) hS hl.1 rfl cw_12 k_6_198 k_4_117 k_4_118 k_1_2 k_4_119 hv_Tx_cell rfl rfl ⟨(Nat.le_of_ble_eq_true rfl), (Nat.le_of_ble_eq_true rfl)⟩ rfl (Nat.le_of_ble_eq_true rfl) ⟨Nat.zero_le _, Nat.zero_le _⟩ rfl d_Ld_divides_117 (fun H locs hP hS => ?_)
    obtain ⟨q12, hq12, h⟩ := o_bd_some h
    refine o_S (st1 := []) (w1 := (o_cw ad ca u101_rt u101_Sj u101_a1 u101_a3 u101_Rd u101_Pg u101_Pt u101_Mk u101_Lk u101_Ck u101_Jd (Ld_mk (Ld_divisor z.2) q12) u101_Pr)) hE.1 C (c_Ld_append_r hE l n q11 (Ld_rest z.2) u101_Sj u101_a1 u101_a3 u101_Rd u101_Pg u101_Pt u101_Mk u101_Lk u101_Ck u101_Jd z.2 u101_Pr u101_rt hq12) hP (hDD _ _ _ _ _ _ _ _ _ _ _ _ _) hS hl.1 k_6_199 k_6_200 k_1_10 k_6_201 hs_Ld_append rfl rfl ⟨(Nat.le_of_ble_eq_true rfl), (Nat.le_of_ble_eq_true rfl)⟩ rfl (Nat.le_of_ble_eq_true rfl) ⟨Nat.zero_le _, Nat.zero_le _⟩ rfl d_Ld_divides_120 (fun H locs hP hS => ?_)
    refine lv_aload_n hx hb d_Ld_divides_123 rfl (lv_at hl 0 rfl) ?_
    obtain ⟨q13, hq13, h⟩ := o_bd_some h
    refine o_V (st1 := []) (w1 := (o_cw ad ca u101_rt u101_Sj u101_a1 u101_a3 u101_Rd u101_Pg u101_Pt u101_Mk u101_Lk u101_Ck u101_Jd q13 u101_Pr)) hE.1 C (c_Ld_reduce hE l n (Ld_mk (Ld_divisor z.2) q12) u101_Sj u101_a1 u101_a3 u101_Rd u101_Pg u101_Pt u101_Mk u101_Lk u101_Ck u101_Jd u101_Pr u101_rt hq13) hP (hDD _ _ _ _ _ _ _ _ _ _ _ _ _) hS hl.1 rfl cw_51 k_6_205 k_6_207 k_s_75 k_1_10 k_6_208 hv_Ld_reduce rfl rfl ⟨(Nat.le_of_ble_eq_true rfl), (Nat.le_of_ble_eq_true rfl)⟩ rfl (Nat.le_of_ble_eq_true rfl) ⟨Nat.zero_le _, Nat.zero_le _⟩ rfl d_Ld_divides_124 (fun H locs hP hS => ?_)
    obtain ⟨x7_127, ex7_127⟩ : ∃ y : Int32, y = z.1 + (1:Int32) := ⟨_, rfl⟩
    replace h := o_nm_at ex7_127 h
    refine lv_iinc (v := x7_127) (lv' := [(7, .int x7_127), (0, .ref (ad 51)), (3, .ref (ad 12)), (4, .int u101_x4), (6, .int u101_x6)]) hx hb d_Ld_divides_127 hl (k := 4) rfl (by rw [ex7_127]; rfl) (by decide) rfl (fun ls hl => ?_)
    refine lv_goto (tgt := 101) hx hb d_Ld_divides_130 (by decide) ?_
    cases h
    exact h0 rfl _ _ _ hP hS (lv_sub hl [1, 2, 3, 4, 0] rfl)
set_option maxHeartbeats 4000000 in
set_option maxRecDepth 100000 in
theorem c_Ld_divides_01 {E : (Nat → Prop) → State → Heap → Prop} {D : va_G} {ad kd sd vd xd : Nat → Nat} {ca : Nat → ClassId} (hE : o_EK E kd sd vd xd) (l : Launch) (n : Nat) (x2 : Int32) (x4 : Int32) (a1 : STx) (a3 : STx) (Ld : SLd) (Sj : SSJ) (Rd : SRd) (Pg : SPg) (Pt : SPt) (Mk : SMk) (Lk : SLk) (Ck : SCk) (Jd : SJd) (Pr : SPr) (rt : Nat) {r : Int32 × SLd} (h : m_Ld_divides n x2 x4 a1 a3 Ld = some r) : o_Cn E l D o_cls (o_tys ca) y_Ld_divides cc_Ld_divides rm_Ld_divides [.ref (ad 51), .ref (ad 1), .int x2, .ref (ad 12), .int x4] (o_cw ad ca rt Sj a1 a3 Rd Pg Pt Mk Lk Ck Jd Ld Pr) (o_cw ad ca rt Sj a1 a3 Rd Pg Pt Mk Lk Ck Jd r.2 Pr) (some (.int r.1)) := by
  refine o_Cn_of (by decide) (Nat.le_of_ble_eq_true rfl) ?_
  intro p e s m below meth c A ls C hD hP hS hl
  have hDD : ∀ (rt : Nat) (Sj : SSJ) (T0 : STx) (T1 : STx) (Rd : SRd) (Pg : SPg) (Pt : SPt) (Mk : SMk) (Lk : SLk) (Ck : SCk) (Jd : SJd) (Ld : SLd) (Pr : SPr), va_D A (o_cw ad ca rt Sj T0 T1 Rd Pg Pt Mk Lk Ck Jd Ld Pr) := fun _ _ _ _ _ _ _ _ _ _ _ _ _ => o_D_map hD rfl
  have hl : lv_has ls 8 [(0, .ref (ad 51)), (1, .ref (ad 1)), (2, .int x2), (3, .ref (ad 12)), (4, .int x4)] := hl
  unfold m_Ld_divides at h
  have C0 := C
  obtain ⟨hx, hb, -, -, -, hown, hts, hK, -, -⟩ := C0
  refine lv_aload_n hx hb d_Ld_divides_0 rfl (lv_at hl 3 rfl) ?_
  refine lv_iload hx hb d_Ld_divides_1 (lv_at hl 4 rfl) ?_
  obtain ⟨q1, hq1, h⟩ := o_bd_some h
  refine o_V (st1 := [.int q1]) (w1 := (o_cw ad ca rt Sj a1 a3 Rd Pg Pt Mk Lk Ck Jd Ld Pr)) hE.1 C (c_Tx_exponent_1 hE l x4 a3 Sj a1 Rd Pg Pt Mk Lk Ck Jd Ld Pr rt hq1) hP (hDD _ _ _ _ _ _ _ _ _ _ _ _ _) hS hl.1 rfl cw_12 k_6_193 k_5_67 k_5_68 k_1_2 k_5_69 hv_Tx_exponent rfl rfl ⟨(Nat.le_of_ble_eq_true rfl), (Nat.le_of_ble_eq_true rfl)⟩ rfl (Nat.le_of_ble_eq_true rfl) ⟨Nat.zero_le _, Nat.zero_le _⟩ rfl d_Ld_divides_3 (fun H locs hP hS => ?_)
  refine lv_aload_n hx hb d_Ld_divides_6 rfl (lv_at hl 1 rfl) ?_
  refine lv_iload_n hx hb d_Ld_divides_7 rfl (lv_at hl 2 rfl) ?_
  obtain ⟨q2, hq2, h⟩ := o_bd_some h
  refine o_V (st1 := [.int q2, .int q1]) (w1 := (o_cw ad ca rt Sj a1 a3 Rd Pg Pt Mk Lk Ck Jd Ld Pr)) hE.1 C (c_Tx_exponent_0 hE l x2 a1 Sj a3 Rd Pg Pt Mk Lk Ck Jd Ld Pr rt hq2) hP (hDD _ _ _ _ _ _ _ _ _ _ _ _ _) hS hl.1 rfl cw_1 k_6_193 k_5_67 k_5_68 k_1_2 k_5_69 hv_Tx_exponent rfl rfl ⟨(Nat.le_of_ble_eq_true rfl), (Nat.le_of_ble_eq_true rfl)⟩ rfl (Nat.le_of_ble_eq_true rfl) ⟨Nat.zero_le _, Nat.zero_le _⟩ rfl d_Ld_divides_8 (fun H locs hP hS => ?_)
  refine lv_isub hx hb d_Ld_divides_11 ?_
  refine lv_topi (fun x5_12 ex5_12 => ?_)
  replace h := o_nm_at ex5_12 h
  refine lv_istore (lv' := [(5, .int x5_12), (0, .ref (ad 51)), (1, .ref (ad 1)), (2, .int x2), (3, .ref (ad 12)), (4, .int x4)]) hx hb d_Ld_divides_12 hl (by decide) rfl (fun ls hl => ?_)
  refine lv_aload_n hx hb d_Ld_divides_14 rfl (lv_at hl 4 rfl) ?_
  refine lv_iload hx hb d_Ld_divides_15 (lv_at hl 5 rfl) ?_
  obtain ⟨q3, hq3, h⟩ := o_bd_some h
  refine o_V (st1 := [.int q3]) (w1 := (o_cw ad ca rt Sj a1 a3 Rd Pg Pt Mk Lk Ck Jd Ld Pr)) hE.1 C (c_Tx_size_1 hE l x4 a3 Sj a1 Rd Pg Pt Mk Lk Ck Jd Ld Pr rt hq3) hP (hDD _ _ _ _ _ _ _ _ _ _ _ _ _) hS hl.1 rfl cw_12 k_6_194 k_3_215 k_3_216 k_1_2 k_3_217 hv_Tx_size rfl rfl ⟨(Nat.le_of_ble_eq_true rfl), (Nat.le_of_ble_eq_true rfl)⟩ rfl (Nat.le_of_ble_eq_true rfl) ⟨Nat.zero_le _, Nat.zero_le _⟩ rfl d_Ld_divides_17 (fun H locs hP hS => ?_)
  refine lv_if_ne (tgt := 25) hx hb d_Ld_divides_20 (by decide) (fun c1 => ?_) (fun c1 => ?_)
  · replace h := o_ff c1 h
    refine lv_iload hx hb d_Ld_divides_25 (lv_at hl 0 rfl) ?_
    refine lv_if_ge (tgt := 32) hx hb d_Ld_divides_27 (by decide) (fun c2 => ?_) (fun c2 => ?_)
    · replace h := o_tt c2 h
      refine lv_aload_n hx hb d_Ld_divides_32 rfl (lv_at hl 1 rfl) ?_
      refine o_get (v := .ref (ad 52)) C in_Ld hP 51 cw_51 rfl 0 (by decide) k_2_50 rfl rfl d_Ld_divides_33 ?_
      refine lv_lconst (v := (0:Int64)) hx hb d_Ld_divides_36 (by decide) ?_
      obtain ⟨q4, hq4, h⟩ := o_bd_some h
      refine o_S (st1 := []) (w1 := (o_cw ad ca rt Sj a1 a3 Rd Pg Pt Mk Lk Ck Jd (Ld_mk q4 (Ld_rest Ld)) Pr)) hE.1 C (c_JA_fill_1_d hE l n (0:Int64) (Ld_divisor Ld) Sj a1 a3 Rd Pg Pt Mk Lk Ck Jd Ld Pr rt hq4) hP (hDD _ _ _ _ _ _ _ _ _ _ _ _ _) hS hl.1 k_6_195 k_6_196 k_1_29 k_6_197 hs_JA_fill_1 rfl rfl ⟨(Nat.le_of_ble_eq_true rfl), (Nat.le_of_ble_eq_true rfl)⟩ rfl (Nat.le_of_ble_eq_true rfl) ⟨Nat.zero_le _, Nat.zero_le _⟩ rfl d_Ld_divides_37 (fun H locs hP hS => ?_)
      refine lv_iconst (v := (0:Int32)) hx hb d_Ld_divides_40 (by decide) ?_
      refine lv_istore (lv' := [(6, .int (0:Int32)), (5, .int x5_12), (0, .ref (ad 51)), (1, .ref (ad 1)), (2, .int x2), (3, .ref (ad 12)), (4, .int x4)]) hx hb d_Ld_divides_41 hl (by decide) rfl (fun ls hl => ?_)
      obtain ⟨q8, hq8, h⟩ := o_bd_some h
      refine o_sim2 (AH := fun zz => o_At p l e rm_Ld_divides s m _ below meth c _ o_cls D A 8 43 [] (o_cw ad ca rt Sj a1 a3 Rd Pg Pt Mk Lk Ck Jd zz.2 Pr) [(0, .ref (ad 51)), (1, .ref (ad 1)), (2, .int x2), (3, .ref (ad 12)), (4, .int x4), (5, .int x5_12), (6, .int zz.1)]) (AX := fun qq => o_At p l e rm_Ld_divides s m _ below meth c _ o_cls D A 8 73 [] (o_cw ad ca rt Sj a1 a3 Rd Pg Pt Mk Lk Ck Jd qq.2.2 Pr) [(0, .ref (ad 51)), (3, .ref (ad 12)), (4, .int x4), (5, .int x5_12)]) (fun zz qq h h0 h1 => w_Ld_divides_b43_01 hE C hDD n x2 x4 x5_12 a1 a3 Sj Rd Pg Pt Mk Lk Ck Jd Pr rt zz qq h h0 h1) n _ q8 hq8 ?_ _ _ _ hP hS (lv_sub hl [2, 3, 4, 5, 6, 1, 0] rfl)
      intro H locs ls hP hS hl
      refine lv_aload_n hx hb d_Ld_divides_73 rfl (lv_at hl 0 rfl) ?_
      refine o_get (v := .ref (ad 53)) C in_Ld hP 51 cw_51 rfl 1 (by decide) k_2_51 rfl rfl d_Ld_divides_74 ?_
      refine lv_lconst (v := (0:Int64)) hx hb d_Ld_divides_77 (by decide) ?_
      obtain ⟨q9, hq9, h⟩ := o_bd_some h
      refine o_S (st1 := []) (w1 := (o_cw ad ca rt Sj a1 a3 Rd Pg Pt Mk Lk Ck Jd (Ld_mk (Ld_divisor q8.2.2) q9) Pr)) hE.1 C (c_JA_fill_1_r hE l n (0:Int64) (Ld_rest q8.2.2) Sj a1 a3 Rd Pg Pt Mk Lk Ck Jd q8.2.2 Pr rt hq9) hP (hDD _ _ _ _ _ _ _ _ _ _ _ _ _) hS hl.1 k_6_195 k_6_196 k_1_29 k_6_197 hs_JA_fill_1 rfl rfl ⟨(Nat.le_of_ble_eq_true rfl), (Nat.le_of_ble_eq_true rfl)⟩ rfl (Nat.le_of_ble_eq_true rfl) ⟨Nat.zero_le _, Nat.zero_le _⟩ rfl d_Ld_divides_78 (fun H locs hP hS => ?_)
      refine lv_aload_n hx hb d_Ld_divides_81 rfl (lv_at hl 1 rfl) ?_
      refine lv_iload hx hb d_Ld_divides_82 (lv_at hl 2 rfl) ?_
      obtain ⟨q10, hq10, h⟩ := o_bd_some h
      refine o_V (st1 := [.int q10]) (w1 := (o_cw ad ca rt Sj a1 a3 Rd Pg Pt Mk Lk Ck Jd (Ld_mk (Ld_divisor q8.2.2) q9) Pr)) hE.1 C (c_Tx_size_1 hE l x4 a3 Sj a1 Rd Pg Pt Mk Lk Ck Jd (Ld_mk (Ld_divisor q8.2.2) q9) Pr rt hq10) hP (hDD _ _ _ _ _ _ _ _ _ _ _ _ _) hS hl.1 rfl cw_12 k_6_194 k_3_215 k_3_216 k_1_2 k_3_217 hv_Tx_size rfl rfl ⟨(Nat.le_of_ble_eq_true rfl), (Nat.le_of_ble_eq_true rfl)⟩ rfl (Nat.le_of_ble_eq_true rfl) ⟨Nat.zero_le _, Nat.zero_le _⟩ rfl d_Ld_divides_84 (fun H locs hP hS => ?_)
      refine lv_iload hx hb d_Ld_divides_87 (lv_at hl 3 rfl) ?_
      refine lv_sipush (v := (200:Int32)) hx hb d_Ld_divides_89 (by decide) ?_
      refine va_mmin hx hb (C.2.2.2.2.1.trans hl.1.symm) hown (hts _ k_6_204) (hts _ k_4_114) (hts _ k_1_26) (hts _ k_4_115) (Nat.le_of_ble_eq_true rfl) (Nat.le_of_ble_eq_true rfl) (Nat.zero_le _) (Nat.zero_le _) d_Ld_divides_92 ?_
      refine lv_iadd hx hb d_Ld_divides_95 ?_
      refine lv_topi (fun x6_96 ex6_96 => ?_)
      replace h := o_nm_at ex6_96 h
      refine lv_istore (lv' := [(6, .int x6_96), (0, .ref (ad 51)), (3, .ref (ad 12)), (4, .int x4), (5, .int x5_12)]) hx hb d_Ld_divides_96 hl (by decide) rfl (fun ls hl => ?_)
      refine lv_iconst (v := (0:Int32)) hx hb d_Ld_divides_98 (by decide) ?_
      refine lv_istore (lv' := [(7, .int (0:Int32)), (6, .int x6_96), (0, .ref (ad 51)), (3, .ref (ad 12)), (4, .int x4), (5, .int x5_12)]) hx hb d_Ld_divides_99 hl (by decide) rfl (fun ls hl => ?_)
      obtain ⟨q14, hq14, h⟩ := o_bd_some h
      refine o_sim2 (AH := fun zz => o_At p l e rm_Ld_divides s m _ below meth c _ o_cls D A 8 101 [] (o_cw ad ca rt Sj a1 a3 Rd Pg Pt Mk Lk Ck Jd zz.2 Pr) [(0, .ref (ad 51)), (3, .ref (ad 12)), (4, .int x4), (6, .int x6_96), (7, .int zz.1)]) (AX := fun qq => o_At p l e rm_Ld_divides s m _ below meth c _ o_cls D A 8 133 [] (o_cw ad ca rt Sj a1 a3 Rd Pg Pt Mk Lk Ck Jd qq.2.2 Pr) [(0, .ref (ad 51))]) (fun zz qq h h0 h1 => w_Ld_divides_b101_01 hE C hDD n x4 x6_96 a1 a3 Sj Rd Pg Pt Mk Lk Ck Jd Pr rt zz qq h h0 h1) n _ q14 hq14 ?_ _ _ _ hP hS (lv_sub hl [2, 3, 4, 1, 0] rfl)
      intro H locs ls hP hS hl
      refine lv_aload_n hx hb d_Ld_divides_133 rfl (lv_at hl 0 rfl) ?_
      obtain ⟨q15, hq15, h⟩ := o_bd_some h
      refine o_V (st1 := [.int q15]) (w1 := (o_cw ad ca rt Sj a1 a3 Rd Pg Pt Mk Lk Ck Jd q14.2.2 Pr)) hE.1 C (c_Ld_isZero hE l n q14.2.2 Sj a1 a3 Rd Pg Pt Mk Lk Ck Jd Pr rt hq15) hP (hDD _ _ _ _ _ _ _ _ _ _ _ _ _) hS hl.1 rfl cw_51 k_6_213 k_6_215 k_s_77 k_1_10 k_6_216 hv_Ld_isZero rfl rfl ⟨(Nat.le_of_ble_eq_true rfl), (Nat.le_of_ble_eq_true rfl)⟩ rfl (Nat.le_of_ble_eq_true rfl) ⟨Nat.zero_le _, Nat.zero_le _⟩ rfl d_Ld_divides_134 (fun H locs hP hS => ?_)
      obtain ⟨g5, h⟩ := o_gd_some h
      cases h
      exact o_rz C (o_zb_nar g5) hP hS d_Ld_divides_137
    · replace h := o_ff c2 h
      refine lv_iconst (v := (0:Int32)) hx hb d_Ld_divides_30 (by decide) ?_
      cases h
      exact o_rz (v := (0:Int32)) C o_nar0 hP hS d_Ld_divides_31
  · replace h := o_tt c1 h
    refine lv_iconst (v := (1:Int32)) hx hb d_Ld_divides_23 (by decide) ?_
    cases h
    exact o_rz (v := (1:Int32)) C o_nar1 hP hS d_Ld_divides_24
set_option maxHeartbeats 4000000 in
set_option maxRecDepth 100000 in
theorem w_Tx_compare_j22_10 {E : (Nat → Prop) → State → Heap → Prop} {p : Program} {l : Launch} {e : Env} {s : State} {m : MethodId} {args : Array Value} {below : List Frame} {meth : Method} {c : Code} {D : va_G} {ad kd sd vd xd : Nat → Nat} {ca : Nat → ClassId} {A : Nat → Prop} (hE : o_EK E kd sd vd xd) (C : o_Cx E p s m args meth c D o_cls (o_tys ca) "SchemaJudge$Text" b_Tx_compare (some .int) 10 cc_Tx_compare A) (hDD : ∀ (rt : Nat) (Sj : SSJ) (T0 : STx) (T1 : STx) (Rd : SRd) (Pg : SPg) (Pt : SPt) (Mk : SMk) (Lk : SLk) (Ck : SCk) (Jd : SJd) (Ld : SLd) (Pr : SPr), va_D A (o_cw ad ca rt Sj T0 T1 Rd Pg Pt Mk Lk Ck Jd Ld Pr)) (n : Nat) (x3 : Int32) (x4 : Int32) (a0 : STx) (a2 : STx) (Sj : SSJ) (Rd : SRd) (Pg : SPg) (Pt : SPt) (Mk : SMk) (Lk : SLk) (Ck : SCk) (Jd : SJd) (Ld : SLd) (Pr : SPr) (rt : Nat) {r : Int32} (h : m_Tx_compare_j22 n x3 x4 a0 a2 = some r) : o_At p l e rm_Tx_compare s m args below meth c (MQ below (o_Qx D o_cls (some (.int r)) (o_cw ad ca rt Sj a2 a0 Rd Pg Pt Mk Lk Ck Jd Ld Pr) A) args s 0 0 A) o_cls D A 10 22 [] (o_cw ad ca rt Sj a2 a0 Rd Pg Pt Mk Lk Ck Jd Ld Pr) [(2, .ref (ad 1)), (3, .int x3), (4, .int x4)] := by
  unfold m_Tx_compare_j22 at h
  intro H locs ls hP hS hl
  have C0 := C
  obtain ⟨hx, hb, -, -, -, hown, hts, hK, -, -⟩ := C0
  refine lv_iload hx hb d_Tx_compare_22 (lv_at hl 2 rfl) ?_
  refine lv_aload_n hx hb d_Tx_compare_24 rfl (lv_at hl 0 rfl) ?_
  refine lv_iload_n hx hb d_Tx_compare_25 rfl (lv_at hl 1 rfl) ?_
  obtain ⟨q3, hq3, h⟩ := o_bd_some h
  refine o_V (st1 := [.int q3, .int x4]) (w1 := (o_cw ad ca rt Sj a2 a0 Rd Pg Pt Mk Lk Ck Jd Ld Pr)) hE.1 C (c_Tx_sign_0 hE l x3 a2 Sj a0 Rd Pg Pt Mk Lk Ck Jd Ld Pr rt hq3) hP (hDD _ _ _ _ _ _ _ _ _ _ _ _ _) hS hl.1 rfl cw_1 k_5_65 k_5_57 k_5_58 k_1_2 k_5_59 hv_Tx_sign rfl rfl ⟨(Nat.le_of_ble_eq_true rfl), (Nat.le_of_ble_eq_true rfl)⟩ rfl (Nat.le_of_ble_eq_true rfl) ⟨Nat.zero_le _, Nat.zero_le _⟩ rfl d_Tx_compare_26 (fun H locs hP hS => ?_)
  refine lv_isub hx hb d_Tx_compare_29 ?_
  cases h
  exact o_ri (v := (x4 - q3)) C hP hS d_Tx_compare_30
set_option maxHeartbeats 4000000 in
set_option maxRecDepth 100000 in
theorem w_Tx_compare_b83_10 {E : (Nat → Prop) → State → Heap → Prop} {p : Program} {l : Launch} {e : Env} {s : State} {m : MethodId} {args : Array Value} {below : List Frame} {meth : Method} {c : Code} {D : va_G} {ad kd sd vd xd : Nat → Nat} {ca : Nat → ClassId} {A : Nat → Prop} {Q : State → Prop} (hE : o_EK E kd sd vd xd) (C : o_Cx E p s m args meth c D o_cls (o_tys ca) "SchemaJudge$Text" b_Tx_compare (some .int) 10 cc_Tx_compare A) (hDD : ∀ (rt : Nat) (Sj : SSJ) (T0 : STx) (T1 : STx) (Rd : SRd) (Pg : SPg) (Pt : SPt) (Mk : SMk) (Lk : SLk) (Ck : SCk) (Jd : SJd) (Ld : SLd) (Pr : SPr), va_D A (o_cw ad ca rt Sj T0 T1 Rd Pg Pt Mk Lk Ck Jd Ld Pr)) (n : Nat) (u83_x1 : Int32) (u83_x3 : Int32) (u83_x4 : Int32) (u83_a0 : STx) (u83_a2 : STx) (u83_Sj : SSJ) (u83_Rd : SRd) (u83_Pg : SPg) (u83_Pt : SPt) (u83_Mk : SMk) (u83_Lk : SLk) (u83_Ck : SCk) (u83_Jd : SJd) (u83_Ld : SLd) (u83_Pr : SPr) (u83_rt : Nat) (z : Int32 × Int32 × Int32) (q : Nat × Int32 × Int32 × Int32) (h : m_Tx_compare_b83 n u83_x1 u83_x3 u83_x4 u83_a0 u83_a2 z = some q) (h0 : q.1 = 0 → o_At p l e rm_Tx_compare s m args below meth c Q o_cls D A 10 83 [] (o_cw ad ca u83_rt u83_Sj u83_a2 u83_a0 u83_Rd u83_Pg u83_Pt u83_Mk u83_Lk u83_Ck u83_Jd u83_Ld u83_Pr) [(0, .ref (ad 12)), (1, .int u83_x1), (2, .ref (ad 1)), (3, .int u83_x3), (4, .int u83_x4), (7, .int q.2.1)]) (h1 : q.1 ≠ 0 → (if q.1 = 1 then o_At p l e rm_Tx_compare s m args below meth c Q o_cls D A 10 115 [] (o_cw ad ca u83_rt u83_Sj u83_a2 u83_a0 u83_Rd u83_Pg u83_Pt u83_Mk u83_Lk u83_Ck u83_Jd u83_Ld u83_Pr) [(4, .int u83_x4), (8, .int q.2.2.1), (9, .int q.2.2.2)] else o_At p l e rm_Tx_compare s m args below meth c Q o_cls D A 10 137 [] (o_cw ad ca u83_rt u83_Sj u83_a2 u83_a0 u83_Rd u83_Pg u83_Pt u83_Mk u83_Lk u83_Ck u83_Jd u83_Ld u83_Pr) [])) : o_At p l e rm_Tx_compare s m args below meth c Q o_cls D A 10 83 [] (o_cw ad ca u83_rt u83_Sj u83_a2 u83_a0 u83_Rd u83_Pg u83_Pt u83_Mk u83_Lk u83_Ck u83_Jd u83_Ld u83_Pr) [(0, .ref (ad 12)), (1, .int u83_x1), (2, .ref (ad 1)), (3, .int u83_x3), (4, .int u83_x4), (7, .int z.1)] := by
  unfold m_Tx_compare_b83 at h
  intro H locs ls hP hS hl
  have C0 := C
  obtain ⟨hx, hb, -, -, -, hown, hts, hK, -, -⟩ := C0
  refine lv_iload hx hb d_Tx_compare_83 (lv_at hl 5 rfl) ?_
  refine lv_bipush (v := (60:Int32)) hx hb d_Tx_compare_85 (by decide) ?_
  refine lv_icmp_ge (tgt := 137) hx hb d_Tx_compare_87 (by decide) (fun c4 => ?_) (fun c4 => ?_)
  · replace h := o_tt c4 h
    cases h
    exact h1 (Nat.succ_ne_zero 1) _ _ _ hP hS (lv_sub hl [] rfl)
  · replace h := o_ff c4 h
    refine lv_aload_n hx hb d_Tx_compare_90 rfl (lv_at hl 0 rfl) ?_
    refine lv_iload_n hx hb d_Tx_compare_91 rfl (lv_at hl 1 rfl) ?_
    refine lv_iload hx hb d_Tx_compare_92 (lv_at hl 5 rfl) ?_
    obtain ⟨q8, hq8, h⟩ := o_bd_some h
    refine o_V (st1 := [.int q8]) (w1 := (o_cw ad ca u83_rt u83_Sj u83_a2 u83_a0 u83_Rd u83_Pg u83_Pt u83_Mk u83_Lk u83_Ck u83_Jd u83_Ld u83_Pr)) hE.1 C (c_Tx_cell_1 hE l u83_x1 z.1 u83_a0 u83_Sj u83_a2 u83_Rd u83_Pg u83_Pt u83_Mk u83_Lk u83_Ck u83_Jd u83_Ld u83_Pr u83_rt hq8) hP (hDD _ _ _ _ _ _ _ _ _ _ _ _ _) hS hl.1 rfl cw_12 k_5_70 k_4_117 k_4_118 k_1_2 k_4_119 hv_Tx_cell rfl rfl ⟨(Nat.le_of_ble_eq_true rfl), (Nat.le_of_ble_eq_true rfl)⟩ rfl (Nat.le_of_ble_eq_true rfl) ⟨Nat.zero_le _, Nat.zero_le _⟩ rfl d_Tx_compare_94 (fun H locs hP hS => ?_)
    refine lv_istore (lv' := [(8, .int q8), (0, .ref (ad 12)), (1, .int u83_x1), (2, .ref (ad 1)), (3, .int u83_x3), (4, .int u83_x4), (7, .int z.1)]) hx hb d_Tx_compare_97 hl (by decide) rfl (fun ls hl => ?_)
    refine lv_aload_n hx hb d_Tx_compare_99 rfl (lv_at hl 3 rfl) ?_
    refine lv_iload_n hx hb d_Tx_compare_100 rfl (lv_at hl 4 rfl) ?_
    refine lv_iload hx hb d_Tx_compare_101 (lv_at hl 6 rfl) ?_
    obtain ⟨q9, hq9, h⟩ := o_bd_some h
    refine o_V (st1 := [.int q9]) (w1 := (o_cw ad ca u83_rt u83_Sj u83_a2 u83_a0 u83_Rd u83_Pg u83_Pt u83_Mk u83_Lk u83_Ck u83_Jd u83_Ld u83_Pr)) hE.1 C (c_Tx_cell_0 hE l u83_x3 z.1 u83_a2 u83_Sj u83_a0 u83_Rd u83_Pg u83_Pt u83_Mk u83_Lk u83_Ck u83_Jd u83_Ld u83_Pr u83_rt hq9) hP (hDD _ _ _ _ _ _ _ _ _ _ _ _ _) hS hl.1 rfl cw_1 k_5_70 k_4_117 k_4_118 k_1_2 k_4_119 hv_Tx_cell rfl rfl ⟨(Nat.le_of_ble_eq_true rfl), (Nat.le_of_ble_eq_true rfl)⟩ rfl (Nat.le_of_ble_eq_true rfl) ⟨Nat.zero_le _, Nat.zero_le _⟩ rfl d_Tx_compare_103 (fun H locs hP hS => ?_)
    refine lv_istore (lv' := [(9, .int q9), (8, .int q8), (0, .ref (ad 12)), (1, .int u83_x1), (2, .ref (ad 1)), (3, .int u83_x3), (4, .int u83_x4), (7, .int z.1)]) hx hb d_Tx_compare_106 hl (by decide) rfl (fun ls hl => ?_)
    refine lv_iload hx hb d_Tx_compare_108 (lv_at hl 1 rfl) ?_
    refine lv_iload hx hb d_Tx_compare_110 (lv_at hl 0 rfl) ?_
    refine lv_icmp_eq (tgt := 131) hx hb d_Tx_compare_112 (by decide) (fun c5 => ?_) (fun c5 => ?_)
    · replace h := o_tt c5 h
      obtain ⟨x7_131, ex7_131⟩ : ∃ y : Int32, y = z.1 + (1:Int32) := ⟨_, rfl⟩
      replace h := o_nm_at ex7_131 h
      refine lv_iinc (v := x7_131) (lv' := [(7, .int x7_131), (9, .int q9), (8, .int q8), (0, .ref (ad 12)), (1, .int u83_x1), (2, .ref (ad 1)), (3, .int u83_x3), (4, .int u83_x4)]) hx hb d_Tx_compare_131 hl (k := 7) rfl (by rw [ex7_131]; rfl) (by decide) rfl (fun ls hl => ?_)
      refine lv_goto (tgt := 83) hx hb d_Tx_compare_134 (by decide) ?_
      cases h
      exact h0 rfl _ _ _ hP hS (lv_sub hl [3, 4, 5, 6, 7, 0] rfl)
    · replace h := o_ff c5 h
      cases h
      exact h1 (Nat.succ_ne_zero 0) _ _ _ hP hS (lv_sub hl [6, 1, 0] rfl)
set_option maxHeartbeats 4000000 in
set_option maxRecDepth 100000 in
theorem c_Tx_compare_10 {E : (Nat → Prop) → State → Heap → Prop} {D : va_G} {ad kd sd vd xd : Nat → Nat} {ca : Nat → ClassId} (hE : o_EK E kd sd vd xd) (l : Launch) (n : Nat) (x1 : Int32) (x3 : Int32) (a0 : STx) (a2 : STx) (Sj : SSJ) (Rd : SRd) (Pg : SPg) (Pt : SPt) (Mk : SMk) (Lk : SLk) (Ck : SCk) (Jd : SJd) (Ld : SLd) (Pr : SPr) (rt : Nat) {r : Int32} (h : m_Tx_compare n x1 x3 a0 a2 = some r) : o_Cn E l D o_cls (o_tys ca) y_Tx_compare cc_Tx_compare rm_Tx_compare [.ref (ad 12), .int x1, .ref (ad 1), .int x3] (o_cw ad ca rt Sj a2 a0 Rd Pg Pt Mk Lk Ck Jd Ld Pr) (o_cw ad ca rt Sj a2 a0 Rd Pg Pt Mk Lk Ck Jd Ld Pr) (some (.int r)) := by
  refine o_Cn_of (by decide) (Nat.le_of_ble_eq_true rfl) ?_
  intro p e s m below meth c A ls C hD hP hS hl
  have hDD : ∀ (rt : Nat) (Sj : SSJ) (T0 : STx) (T1 : STx) (Rd : SRd) (Pg : SPg) (Pt : SPt) (Mk : SMk) (Lk : SLk) (Ck : SCk) (Jd : SJd) (Ld : SLd) (Pr : SPr), va_D A (o_cw ad ca rt Sj T0 T1 Rd Pg Pt Mk Lk Ck Jd Ld Pr) := fun _ _ _ _ _ _ _ _ _ _ _ _ _ => o_D_map hD rfl
  have hl : lv_has ls 10 [(0, .ref (ad 12)), (1, .int x1), (2, .ref (ad 1)), (3, .int x3)] := hl
  unfold m_Tx_compare at h
  have C0 := C
  obtain ⟨hx, hb, -, -, -, hown, hts, hK, -, -⟩ := C0
  refine lv_aload_n hx hb d_Tx_compare_0 rfl (lv_at hl 0 rfl) ?_
  refine lv_iload_n hx hb d_Tx_compare_1 rfl (lv_at hl 1 rfl) ?_
  obtain ⟨q1, hq1, h⟩ := o_bd_some h
  refine o_V (st1 := [.int q1]) (w1 := (o_cw ad ca rt Sj a2 a0 Rd Pg Pt Mk Lk Ck Jd Ld Pr)) hE.1 C (c_Tx_sign_1 hE l x1 a0 Sj a2 Rd Pg Pt Mk Lk Ck Jd Ld Pr rt hq1) hP (hDD _ _ _ _ _ _ _ _ _ _ _ _ _) hS hl.1 rfl cw_12 k_5_65 k_5_57 k_5_58 k_1_2 k_5_59 hv_Tx_sign rfl rfl ⟨(Nat.le_of_ble_eq_true rfl), (Nat.le_of_ble_eq_true rfl)⟩ rfl (Nat.le_of_ble_eq_true rfl) ⟨Nat.zero_le _, Nat.zero_le _⟩ rfl d_Tx_compare_2 (fun H locs hP hS => ?_)
  refine lv_istore (lv' := [(4, .int q1), (0, .ref (ad 12)), (1, .int x1), (2, .ref (ad 1)), (3, .int x3)]) hx hb d_Tx_compare_5 hl (by decide) rfl (fun ls hl => ?_)
  refine lv_iload hx hb d_Tx_compare_7 (lv_at hl 0 rfl) ?_
  refine lv_aload_n hx hb d_Tx_compare_9 rfl (lv_at hl 3 rfl) ?_
  refine lv_iload_n hx hb d_Tx_compare_10 rfl (lv_at hl 4 rfl) ?_
  obtain ⟨q2, hq2, h⟩ := o_bd_some h
  refine o_V (st1 := [.int q2, .int q1]) (w1 := (o_cw ad ca rt Sj a2 a0 Rd Pg Pt Mk Lk Ck Jd Ld Pr)) hE.1 C (c_Tx_sign_0 hE l x3 a2 Sj a0 Rd Pg Pt Mk Lk Ck Jd Ld Pr rt hq2) hP (hDD _ _ _ _ _ _ _ _ _ _ _ _ _) hS hl.1 rfl cw_1 k_5_65 k_5_57 k_5_58 k_1_2 k_5_59 hv_Tx_sign rfl rfl ⟨(Nat.le_of_ble_eq_true rfl), (Nat.le_of_ble_eq_true rfl)⟩ rfl (Nat.le_of_ble_eq_true rfl) ⟨Nat.zero_le _, Nat.zero_le _⟩ rfl d_Tx_compare_11 (fun H locs hP hS => ?_)
  refine lv_icmp_ne (tgt := 22) hx hb d_Tx_compare_14 (by decide) (fun c1 => ?_) (fun c1 => ?_)
  · replace h := o_ff c1 h
    exact w_Tx_compare_j22_10 hE C hDD n x3 q1 a0 a2 Sj Rd Pg Pt Mk Lk Ck Jd Ld Pr rt h _ _ _ hP hS (lv_sub hl [3, 4, 0] rfl)
  · replace h := o_tt c1 h
    refine lv_iload hx hb d_Tx_compare_17 (lv_at hl 0 rfl) ?_
    refine lv_if_ne (tgt := 31) hx hb d_Tx_compare_19 (by decide) (fun c2 => ?_) (fun c2 => ?_)
    · replace h := o_ff c2 h
      refine lv_aload_n hx hb d_Tx_compare_31 rfl (lv_at hl 1 rfl) ?_
      refine lv_iload_n hx hb d_Tx_compare_32 rfl (lv_at hl 2 rfl) ?_
      obtain ⟨q4, hq4, h⟩ := o_bd_some h
      refine o_V (st1 := [.int q4]) (w1 := (o_cw ad ca rt Sj a2 a0 Rd Pg Pt Mk Lk Ck Jd Ld Pr)) hE.1 C (c_Tx_size_1 hE l x1 a0 Sj a2 Rd Pg Pt Mk Lk Ck Jd Ld Pr rt hq4) hP (hDD _ _ _ _ _ _ _ _ _ _ _ _ _) hS hl.1 rfl cw_12 k_3_214 k_3_215 k_3_216 k_1_2 k_3_217 hv_Tx_size rfl rfl ⟨(Nat.le_of_ble_eq_true rfl), (Nat.le_of_ble_eq_true rfl)⟩ rfl (Nat.le_of_ble_eq_true rfl) ⟨Nat.zero_le _, Nat.zero_le _⟩ rfl d_Tx_compare_33 (fun H locs hP hS => ?_)
      refine lv_aload_n hx hb d_Tx_compare_36 rfl (lv_at hl 1 rfl) ?_
      refine lv_iload_n hx hb d_Tx_compare_37 rfl (lv_at hl 2 rfl) ?_
      obtain ⟨q5, hq5, h⟩ := o_bd_some h
      refine o_V (st1 := [.int q5, .int q4]) (w1 := (o_cw ad ca rt Sj a2 a0 Rd Pg Pt Mk Lk Ck Jd Ld Pr)) hE.1 C (c_Tx_exponent_1 hE l x1 a0 Sj a2 Rd Pg Pt Mk Lk Ck Jd Ld Pr rt hq5) hP (hDD _ _ _ _ _ _ _ _ _ _ _ _ _) hS hl.1 rfl cw_12 k_5_66 k_5_67 k_5_68 k_1_2 k_5_69 hv_Tx_exponent rfl rfl ⟨(Nat.le_of_ble_eq_true rfl), (Nat.le_of_ble_eq_true rfl)⟩ rfl (Nat.le_of_ble_eq_true rfl) ⟨Nat.zero_le _, Nat.zero_le _⟩ rfl d_Tx_compare_38 (fun H locs hP hS => ?_)
      refine lv_iadd hx hb d_Tx_compare_41 ?_
      refine lv_topi (fun x5_42 ex5_42 => ?_)
      replace h := o_nm_at ex5_42 h
      refine lv_istore (lv' := [(5, .int x5_42), (4, .int q1), (0, .ref (ad 12)), (1, .int x1), (2, .ref (ad 1)), (3, .int x3)]) hx hb d_Tx_compare_42 hl (by decide) rfl (fun ls hl => ?_)
      refine lv_aload_n hx hb d_Tx_compare_44 rfl (lv_at hl 4 rfl) ?_
      refine lv_iload_n hx hb d_Tx_compare_45 rfl (lv_at hl 5 rfl) ?_
      obtain ⟨q6, hq6, h⟩ := o_bd_some h
      refine o_V (st1 := [.int q6]) (w1 := (o_cw ad ca rt Sj a2 a0 Rd Pg Pt Mk Lk Ck Jd Ld Pr)) hE.1 C (c_Tx_size_0 hE l x3 a2 Sj a0 Rd Pg Pt Mk Lk Ck Jd Ld Pr rt hq6) hP (hDD _ _ _ _ _ _ _ _ _ _ _ _ _) hS hl.1 rfl cw_1 k_3_214 k_3_215 k_3_216 k_1_2 k_3_217 hv_Tx_size rfl rfl ⟨(Nat.le_of_ble_eq_true rfl), (Nat.le_of_ble_eq_true rfl)⟩ rfl (Nat.le_of_ble_eq_true rfl) ⟨Nat.zero_le _, Nat.zero_le _⟩ rfl d_Tx_compare_46 (fun H locs hP hS => ?_)
      refine lv_aload_n hx hb d_Tx_compare_49 rfl (lv_at hl 4 rfl) ?_
      refine lv_iload_n hx hb d_Tx_compare_50 rfl (lv_at hl 5 rfl) ?_
      obtain ⟨q7, hq7, h⟩ := o_bd_some h
      refine o_V (st1 := [.int q7, .int q6]) (w1 := (o_cw ad ca rt Sj a2 a0 Rd Pg Pt Mk Lk Ck Jd Ld Pr)) hE.1 C (c_Tx_exponent_0 hE l x3 a2 Sj a0 Rd Pg Pt Mk Lk Ck Jd Ld Pr rt hq7) hP (hDD _ _ _ _ _ _ _ _ _ _ _ _ _) hS hl.1 rfl cw_1 k_5_66 k_5_67 k_5_68 k_1_2 k_5_69 hv_Tx_exponent rfl rfl ⟨(Nat.le_of_ble_eq_true rfl), (Nat.le_of_ble_eq_true rfl)⟩ rfl (Nat.le_of_ble_eq_true rfl) ⟨Nat.zero_le _, Nat.zero_le _⟩ rfl d_Tx_compare_51 (fun H locs hP hS => ?_)
      refine lv_iadd hx hb d_Tx_compare_54 ?_
      refine lv_topi (fun x6_55 ex6_55 => ?_)
      replace h := o_nm_at ex6_55 h
      refine lv_istore (lv' := [(6, .int x6_55), (5, .int x5_42), (4, .int q1), (0, .ref (ad 12)), (1, .int x1), (2, .ref (ad 1)), (3, .int x3)]) hx hb d_Tx_compare_55 hl (by decide) rfl (fun ls hl => ?_)
      refine lv_iload hx hb d_Tx_compare_57 (lv_at hl 1 rfl) ?_
      refine lv_iload hx hb d_Tx_compare_59 (lv_at hl 0 rfl) ?_
      refine lv_icmp_eq (tgt := 80) hx hb d_Tx_compare_61 (by decide) (fun c3 => ?_) (fun c3 => ?_)
      · replace h := o_tt c3 h
        refine lv_iconst (v := (0:Int32)) hx hb d_Tx_compare_80 (by decide) ?_
        refine lv_istore (lv' := [(7, .int (0:Int32)), (6, .int x6_55), (5, .int x5_42), (4, .int q1), (0, .ref (ad 12)), (1, .int x1), (2, .ref (ad 1)), (3, .int x3)]) hx hb d_Tx_compare_81 hl (by decide) rfl (fun ls hl => ?_)
        obtain ⟨q10, hq10, h⟩ := o_bd_some h
        refine o_sim2 (AH := fun zz => o_At p l e rm_Tx_compare s m _ below meth c _ o_cls D A 10 83 [] (o_cw ad ca rt Sj a2 a0 Rd Pg Pt Mk Lk Ck Jd Ld Pr) [(0, .ref (ad 12)), (1, .int x1), (2, .ref (ad 1)), (3, .int x3), (4, .int q1), (7, .int zz.1)]) (AX := fun qq => if qq.1 = 1 then o_At p l e rm_Tx_compare s m _ below meth c _ o_cls D A 10 115 [] (o_cw ad ca rt Sj a2 a0 Rd Pg Pt Mk Lk Ck Jd Ld Pr) [(4, .int q1), (8, .int qq.2.2.1), (9, .int qq.2.2.2)] else o_At p l e rm_Tx_compare s m _ below meth c _ o_cls D A 10 137 [] (o_cw ad ca rt Sj a2 a0 Rd Pg Pt Mk Lk Ck Jd Ld Pr) []) (fun zz qq h h0 h1 => w_Tx_compare_b83_10 hE C hDD n x1 x3 q1 a0 a2 Sj Rd Pg Pt Mk Lk Ck Jd Ld Pr rt zz qq h h0 h1) n _ q10 hq10 ?_ _ _ _ hP hS (lv_sub hl [4, 5, 6, 7, 3, 0] rfl)
        by_cases c7 : q10.1 = 1
        · replace h := o_tt c7 h
          refine o_ip c7 ?_
          intro H locs ls hP hS hl
          refine lv_iload hx hb d_Tx_compare_115 (lv_at hl 1 rfl) ?_
          refine lv_iload hx hb d_Tx_compare_117 (lv_at hl 2 rfl) ?_
          refine lv_icmp_ge (tgt := 128) hx hb d_Tx_compare_119 (by decide) (fun c6 => ?_) (fun c6 => ?_)
          · replace h := o_tt c6 h
            refine lv_iload hx hb d_Tx_compare_128 (lv_at hl 0 rfl) ?_
            cases h
            exact o_ri C hP hS d_Tx_compare_130
          · replace h := o_ff c6 h
            refine lv_iload hx hb d_Tx_compare_122 (lv_at hl 0 rfl) ?_
            refine lv_ineg hx hb d_Tx_compare_124 ?_
            refine lv_goto (tgt := 130) hx hb d_Tx_compare_125 (by decide) ?_
            cases h
            exact o_ri (v := (-q1)) C hP hS d_Tx_compare_130
        replace h := o_ff c7 h
        refine o_in_ c7 ?_
        intro H locs ls hP hS hl
        refine lv_iconst (v := (0:Int32)) hx hb d_Tx_compare_137 (by decide) ?_
        cases h
        exact o_ri (v := (0:Int32)) C hP hS d_Tx_compare_138
      · replace h := o_ff c3 h
        refine lv_iload hx hb d_Tx_compare_64 (lv_at hl 1 rfl) ?_
        refine lv_iload hx hb d_Tx_compare_66 (lv_at hl 0 rfl) ?_
        refine lv_icmp_ge (tgt := 77) hx hb d_Tx_compare_68 (by decide) (fun c8 => ?_) (fun c8 => ?_)
        · replace h := o_tt c8 h
          refine lv_iload hx hb d_Tx_compare_77 (lv_at hl 2 rfl) ?_
          cases h
          exact o_ri C hP hS d_Tx_compare_79
        · replace h := o_ff c8 h
          refine lv_iload hx hb d_Tx_compare_71 (lv_at hl 2 rfl) ?_
          refine lv_ineg hx hb d_Tx_compare_73 ?_
          refine lv_goto (tgt := 79) hx hb d_Tx_compare_74 (by decide) ?_
          cases h
          exact o_ri (v := (-q1)) C hP hS d_Tx_compare_79
    · replace h := o_tt c2 h
      exact w_Tx_compare_j22_10 hE C hDD n x3 q1 a0 a2 Sj Rd Pg Pt Mk Lk Ck Jd Ld Pr rt h _ _ _ hP hS (lv_sub hl [3, 4, 0] rfl)
set_option maxHeartbeats 4000000 in
set_option maxRecDepth 100000 in
theorem c_Jd_asserts {E : (Nat → Prop) → State → Heap → Prop} {D : va_G} {ad kd sd vd xd : Nat → Nat} {ca : Nat → ClassId} (hE : o_EK E kd sd vd xd) (l : Launch) (n : Nat) (x1 : Nat) (gx1 : o_kb x1 = true) (x2 : Int32) (x3 : Int32) (T0 : STx) (T1 : STx) (Pg : SPg) (Pt : SPt) (Ld : SLd) (Sj : SSJ) (Rd : SRd) (Mk : SMk) (Lk : SLk) (Ck : SCk) (Jd : SJd) (Pr : SPr) (rt : Nat) {r : Int32 × SPg × SPt × SLd} (h : m_Jd_asserts n x1 x2 x3 T0 T1 Pg Pt Ld = some r) : o_Cn E l D o_cls (o_tys ca) y_Jd_asserts cc_Jd_asserts rm_Jd_asserts [.ref (ad 49), .ref (kd x1), .int x2, .int x3] (o_cw ad ca rt Sj T0 T1 Rd Pg Pt Mk Lk Ck Jd Ld Pr) (o_cw ad ca rt Sj T0 T1 Rd r.2.1 r.2.2.1 Mk Lk Ck Jd r.2.2.2 Pr) (some (.int r.1)) := by
  refine o_Cn_of (by decide) (Nat.le_of_ble_eq_true rfl) ?_
  intro p e s m below meth c A ls C hD hP hS hl
  have hDD : ∀ (rt : Nat) (Sj : SSJ) (T0 : STx) (T1 : STx) (Rd : SRd) (Pg : SPg) (Pt : SPt) (Mk : SMk) (Lk : SLk) (Ck : SCk) (Jd : SJd) (Ld : SLd) (Pr : SPr), va_D A (o_cw ad ca rt Sj T0 T1 Rd Pg Pt Mk Lk Ck Jd Ld Pr) := fun _ _ _ _ _ _ _ _ _ _ _ _ _ => o_D_map hD rfl
  have hl : lv_has ls 4 [(0, .ref (ad 49)), (1, .ref (kd x1)), (2, .int x2), (3, .int x3)] := hl
  unfold m_Jd_asserts at h
  have C0 := C
  obtain ⟨hx, hb, -, -, -, hown, hts, hK, -, -⟩ := C0
  refine va_gets (v := .ref (xd 1)) hx hb (hE.2.2.2.2.1 _ _ _ C.2.2.2.2.2.2.2.2.2).1 hS hown (hts _ k_6_62) (fun _ h9 => h9) d_Jd_asserts_0 ?_
  refine lv_aload_n hx hb d_Jd_asserts_3 rfl (lv_at hl 1 rfl) ?_
  refine o_ord (st1 := [.int (nI x1), .ref (xd 1)]) hE C gx1 hP (hDD _ _ _ _ _ _ _ _ _ _ _ _ _) hS hl.1 k_6_64 (Nat.le_of_ble_eq_true rfl) (Nat.le_of_ble_eq_true rfl) rfl (Nat.le_of_ble_eq_true rfl) d_Jd_asserts_4 (fun H locs hP hS => ?_)
  obtain ⟨g1, h⟩ := o_gd_some h
  refine va_ti (v := .int (sw_Keyword (nI x1).toNatClampNeg)) hx hb (hE.2.2.2.2.1 _ _ _ C.2.2.2.2.2.2.2.2.2).2 hS (o_in_in g1) rfl d_Jd_asserts_7 ?_
  refine lv_topi (fun w8 ew8 => ?_)
  replace h := o_nm_at ew8 h
  by_cases c2 : w8 = (13:Int32)
  · replace h := o_tt c2 h
    refine lv_tableIn (off := 88) (tgt := 96) hx hb d_Jd_asserts_8 (by rw [c2]; decide) (by rw [c2]; decide) (by rw [c2]; rfl) (by decide) ?_
    refine lv_aload_n hx hb d_Jd_asserts_96 rfl (lv_at hl 0 rfl) ?_
    refine lv_iload_n hx hb d_Jd_asserts_97 rfl (lv_at hl 2 rfl) ?_
    refine lv_iload_n hx hb d_Jd_asserts_98 rfl (lv_at hl 3 rfl) ?_
    obtain ⟨q1, hq1, h⟩ := o_bd_some h
    refine o_V (st1 := [.int q1]) (w1 := (o_cw ad ca rt Sj T0 T1 Rd Pg Pt Mk Lk Ck Jd Ld Pr)) hE.1 C (c_Jd_hasType hE l n x2 x3 T0 T1 Sj Rd Pg Pt Mk Lk Ck Jd Ld Pr rt hq1) hP (hDD _ _ _ _ _ _ _ _ _ _ _ _ _) hS hl.1 rfl cw_49 k_6_160 k_6_162 k_s_72 k_1_9 k_6_163 hv_Jd_hasType rfl rfl ⟨(Nat.le_of_ble_eq_true rfl), (Nat.le_of_ble_eq_true rfl)⟩ rfl (Nat.le_of_ble_eq_true rfl) ⟨Nat.zero_le _, Nat.zero_le _⟩ rfl d_Jd_asserts_99 (fun H locs hP hS => ?_)
    obtain ⟨g3, h⟩ := o_gd_some h
    cases h
    exact o_rz C (o_zb_nar g3) hP hS d_Jd_asserts_102
  replace h := o_ff c2 h
  by_cases c4 : w8 = (14:Int32)
  · replace h := o_tt c4 h
    refine lv_tableIn (off := 95) (tgt := 103) hx hb d_Jd_asserts_8 (by rw [c4]; decide) (by rw [c4]; decide) (by rw [c4]; rfl) (by decide) ?_
    refine lv_aload_n hx hb d_Jd_asserts_103 rfl (lv_at hl 0 rfl) ?_
    refine lv_iload_n hx hb d_Jd_asserts_104 rfl (lv_at hl 2 rfl) ?_
    refine lv_iload_n hx hb d_Jd_asserts_105 rfl (lv_at hl 3 rfl) ?_
    obtain ⟨q2, hq2, h⟩ := o_bd_some h
    refine o_V (st1 := [.int q2]) (w1 := (o_cw ad ca rt Sj T0 T1 Rd Pg Pt Mk Lk Ck Jd Ld Pr)) hE.1 C (c_Jd_isOneOf hE l n x2 x3 T0 T1 Sj Rd Pg Pt Mk Lk Ck Jd Ld Pr rt hq2) hP (hDD _ _ _ _ _ _ _ _ _ _ _ _ _) hS hl.1 rfl cw_49 k_6_177 k_6_179 k_s_74 k_1_9 k_6_180 hv_Jd_isOneOf rfl rfl ⟨(Nat.le_of_ble_eq_true rfl), (Nat.le_of_ble_eq_true rfl)⟩ rfl (Nat.le_of_ble_eq_true rfl) ⟨Nat.zero_le _, Nat.zero_le _⟩ rfl d_Jd_asserts_106 (fun H locs hP hS => ?_)
    obtain ⟨g5, h⟩ := o_gd_some h
    cases h
    exact o_rz C (o_zb_nar g5) hP hS d_Jd_asserts_109
  replace h := o_ff c4 h
  by_cases c6 : w8 = (15:Int32)
  · replace h := o_tt c6 h
    refine lv_tableIn (off := 102) (tgt := 110) hx hb d_Jd_asserts_8 (by rw [c6]; decide) (by rw [c6]; decide) (by rw [c6]; rfl) (by decide) ?_
    refine lv_aload_n hx hb d_Jd_asserts_110 rfl (lv_at hl 0 rfl) ?_
    refine o_get (v := .ref (ad 1)) C in_Jd hP 49 cw_49 rfl 0 (by decide) k_2_74 rfl rfl d_Jd_asserts_111 ?_
    refine lv_iload_n hx hb d_Jd_asserts_114 rfl (lv_at hl 2 rfl) ?_
    refine lv_aload_n hx hb d_Jd_asserts_115 rfl (lv_at hl 0 rfl) ?_
    refine o_get (v := .ref (ad 12)) C in_Jd hP 49 cw_49 rfl 2 (by decide) k_2_76 rfl rfl d_Jd_asserts_116 ?_
    refine lv_iload_n hx hb d_Jd_asserts_119 rfl (lv_at hl 3 rfl) ?_
    refine lv_iconst (v := (0:Int32)) hx hb d_Jd_asserts_120 (by decide) ?_
    obtain ⟨q3, hq3, h⟩ := o_bd_some h
    refine o_S (st1 := [.int q3]) (w1 := (o_cw ad ca rt Sj T0 T1 Rd Pg Pt Mk Lk Ck Jd Ld Pr)) hE.1 C (c_Tx_same_01 hE l n 43 x2 x3 (0:Int32) T0 T1 Sj Rd Pg Pt Mk Lk Ck Jd Ld Pr rt hq3) hP (hDD _ _ _ _ _ _ _ _ _ _ _ _ _) hS hl.1 k_6_181 k_6_182 k_1_2 k_6_183 hs_Tx_same rfl rfl ⟨(Nat.le_of_ble_eq_true rfl), (Nat.le_of_ble_eq_true rfl)⟩ rfl (Nat.le_of_ble_eq_true rfl) ⟨Nat.zero_le _, Nat.zero_le _⟩ rfl d_Jd_asserts_121 (fun H locs hP hS => ?_)
    obtain ⟨g7, h⟩ := o_gd_some h
    cases h
    exact o_rz C (o_zb_nar g7) hP hS d_Jd_asserts_124
  replace h := o_ff c6 h
  by_cases c8 : w8 = (16:Int32)
  · replace h := o_tt c8 h
    refine lv_tableIn (off := 117) (tgt := 125) hx hb d_Jd_asserts_8 (by rw [c8]; decide) (by rw [c8]; decide) (by rw [c8]; rfl) (by decide) ?_
    refine lv_aload_n hx hb d_Jd_asserts_125 rfl (lv_at hl 0 rfl) ?_
    refine o_get (v := .ref (ad 51)) C in_Jd hP 49 cw_49 rfl 5 (by decide) k_2_79 rfl rfl d_Jd_asserts_126 ?_
    refine lv_aload_n hx hb d_Jd_asserts_129 rfl (lv_at hl 0 rfl) ?_
    refine o_get (v := .ref (ad 1)) C in_Jd hP 49 cw_49 rfl 0 (by decide) k_2_74 rfl rfl d_Jd_asserts_130 ?_
    refine lv_iload_n hx hb d_Jd_asserts_133 rfl (lv_at hl 2 rfl) ?_
    refine lv_aload_n hx hb d_Jd_asserts_134 rfl (lv_at hl 0 rfl) ?_
    refine o_get (v := .ref (ad 12)) C in_Jd hP 49 cw_49 rfl 2 (by decide) k_2_76 rfl rfl d_Jd_asserts_135 ?_
    refine lv_iload_n hx hb d_Jd_asserts_138 rfl (lv_at hl 3 rfl) ?_
    obtain ⟨q4, hq4, h⟩ := o_bd_some h
    refine o_V (st1 := [.int q4.1]) (w1 := (o_cw ad ca rt Sj T0 T1 Rd Pg Pt Mk Lk Ck Jd q4.2 Pr)) hE.1 C (c_Ld_divides_01 hE l n x2 x3 T0 T1 Ld Sj Rd Pg Pt Mk Lk Ck Jd Pr rt hq4) hP (hDD _ _ _ _ _ _ _ _ _ _ _ _ _) hS hl.1 rfl cw_51 k_6_189 k_6_190 k_6_191 k_1_10 k_6_192 hv_Ld_divides rfl rfl ⟨(Nat.le_of_ble_eq_true rfl), (Nat.le_of_ble_eq_true rfl)⟩ rfl (Nat.le_of_ble_eq_true rfl) ⟨Nat.zero_le _, Nat.zero_le _⟩ rfl d_Jd_asserts_139 (fun H locs hP hS => ?_)
    obtain ⟨g9, h⟩ := o_gd_some h
    cases h
    exact o_rz C (o_zb_nar g9) hP hS d_Jd_asserts_142
  replace h := o_ff c8 h
  by_cases c10 : w8 = (17:Int32)
  · replace h := o_tt c10 h
    refine lv_tableIn (off := 135) (tgt := 143) hx hb d_Jd_asserts_8 (by rw [c10]; decide) (by rw [c10]; decide) (by rw [c10]; rfl) (by decide) ?_
    refine lv_aload_n hx hb d_Jd_asserts_143 rfl (lv_at hl 0 rfl) ?_
    refine o_get (v := .ref (ad 12)) C in_Jd hP 49 cw_49 rfl 2 (by decide) k_2_76 rfl rfl d_Jd_asserts_144 ?_
    refine lv_iload_n hx hb d_Jd_asserts_147 rfl (lv_at hl 3 rfl) ?_
    refine lv_aload_n hx hb d_Jd_asserts_148 rfl (lv_at hl 0 rfl) ?_
    refine o_get (v := .ref (ad 1)) C in_Jd hP 49 cw_49 rfl 0 (by decide) k_2_74 rfl rfl d_Jd_asserts_149 ?_
    refine lv_iload_n hx hb d_Jd_asserts_152 rfl (lv_at hl 2 rfl) ?_
    obtain ⟨q5, hq5, h⟩ := o_bd_some h
    refine o_S (st1 := [.int q5]) (w1 := (o_cw ad ca rt Sj T0 T1 Rd Pg Pt Mk Lk Ck Jd Ld Pr)) hE.1 C (c_Tx_compare_10 hE l n x3 x2 T1 T0 Sj Rd Pg Pt Mk Lk Ck Jd Ld Pr rt hq5) hP (hDD _ _ _ _ _ _ _ _ _ _ _ _ _) hS hl.1 k_6_217 k_6_185 k_1_2 k_6_186 hs_Tx_compare rfl rfl ⟨(Nat.le_of_ble_eq_true rfl), (Nat.le_of_ble_eq_true rfl)⟩ rfl (Nat.le_of_ble_eq_true rfl) ⟨Nat.zero_le _, Nat.zero_le _⟩ rfl d_Jd_asserts_153 (fun H locs hP hS => ?_)
    refine lv_if_gt (tgt := 163) hx hb d_Jd_asserts_156 (by decide) (fun c11 => ?_) (fun c11 => ?_)
    · replace h := o_tt c11 h
      refine lv_iconst (v := (0:Int32)) hx hb d_Jd_asserts_163 (by decide) ?_
      cases h
      exact o_rz (v := (0:Int32)) C o_nar0 hP hS d_Jd_asserts_164
    · replace h := o_ff c11 h
      refine lv_iconst (v := (1:Int32)) hx hb d_Jd_asserts_159 (by decide) ?_
      refine lv_goto (tgt := 164) hx hb d_Jd_asserts_160 (by decide) ?_
      cases h
      exact o_rz (v := (1:Int32)) C o_nar1 hP hS d_Jd_asserts_164
  replace h := o_ff c10 h
  by_cases c12 : w8 = (18:Int32)
  · replace h := o_tt c12 h
    refine lv_tableIn (off := 157) (tgt := 165) hx hb d_Jd_asserts_8 (by rw [c12]; decide) (by rw [c12]; decide) (by rw [c12]; rfl) (by decide) ?_
    refine lv_aload_n hx hb d_Jd_asserts_165 rfl (lv_at hl 0 rfl) ?_
    refine o_get (v := .ref (ad 12)) C in_Jd hP 49 cw_49 rfl 2 (by decide) k_2_76 rfl rfl d_Jd_asserts_166 ?_
    refine lv_iload_n hx hb d_Jd_asserts_169 rfl (lv_at hl 3 rfl) ?_
    refine lv_aload_n hx hb d_Jd_asserts_170 rfl (lv_at hl 0 rfl) ?_
    refine o_get (v := .ref (ad 1)) C in_Jd hP 49 cw_49 rfl 0 (by decide) k_2_74 rfl rfl d_Jd_asserts_171 ?_
    refine lv_iload_n hx hb d_Jd_asserts_174 rfl (lv_at hl 2 rfl) ?_
    obtain ⟨q6, hq6, h⟩ := o_bd_some h
    refine o_S (st1 := [.int q6]) (w1 := (o_cw ad ca rt Sj T0 T1 Rd Pg Pt Mk Lk Ck Jd Ld Pr)) hE.1 C (c_Tx_compare_10 hE l n x3 x2 T1 T0 Sj Rd Pg Pt Mk Lk Ck Jd Ld Pr rt hq6) hP (hDD _ _ _ _ _ _ _ _ _ _ _ _ _) hS hl.1 k_6_217 k_6_185 k_1_2 k_6_186 hs_Tx_compare rfl rfl ⟨(Nat.le_of_ble_eq_true rfl), (Nat.le_of_ble_eq_true rfl)⟩ rfl (Nat.le_of_ble_eq_true rfl) ⟨Nat.zero_le _, Nat.zero_le _⟩ rfl d_Jd_asserts_175 (fun H locs hP hS => ?_)
    refine lv_if_ge (tgt := 185) hx hb d_Jd_asserts_178 (by decide) (fun c13 => ?_) (fun c13 => ?_)
    · replace h := o_tt c13 h
      refine lv_iconst (v := (0:Int32)) hx hb d_Jd_asserts_185 (by decide) ?_
      cases h
      exact o_rz (v := (0:Int32)) C o_nar0 hP hS d_Jd_asserts_186
    · replace h := o_ff c13 h
      refine lv_iconst (v := (1:Int32)) hx hb d_Jd_asserts_181 (by decide) ?_
      refine lv_goto (tgt := 186) hx hb d_Jd_asserts_182 (by decide) ?_
      cases h
      exact o_rz (v := (1:Int32)) C o_nar1 hP hS d_Jd_asserts_186
  replace h := o_ff c12 h
  by_cases c14 : w8 = (19:Int32)
  · replace h := o_tt c14 h
    refine lv_tableIn (off := 179) (tgt := 187) hx hb d_Jd_asserts_8 (by rw [c14]; decide) (by rw [c14]; decide) (by rw [c14]; rfl) (by decide) ?_
    refine lv_aload_n hx hb d_Jd_asserts_187 rfl (lv_at hl 0 rfl) ?_
    refine o_get (v := .ref (ad 12)) C in_Jd hP 49 cw_49 rfl 2 (by decide) k_2_76 rfl rfl d_Jd_asserts_188 ?_
    refine lv_iload_n hx hb d_Jd_asserts_191 rfl (lv_at hl 3 rfl) ?_
    refine lv_aload_n hx hb d_Jd_asserts_192 rfl (lv_at hl 0 rfl) ?_
    refine o_get (v := .ref (ad 1)) C in_Jd hP 49 cw_49 rfl 0 (by decide) k_2_74 rfl rfl d_Jd_asserts_193 ?_
    refine lv_iload_n hx hb d_Jd_asserts_196 rfl (lv_at hl 2 rfl) ?_
    obtain ⟨q7, hq7, h⟩ := o_bd_some h
    refine o_S (st1 := [.int q7]) (w1 := (o_cw ad ca rt Sj T0 T1 Rd Pg Pt Mk Lk Ck Jd Ld Pr)) hE.1 C (c_Tx_compare_10 hE l n x3 x2 T1 T0 Sj Rd Pg Pt Mk Lk Ck Jd Ld Pr rt hq7) hP (hDD _ _ _ _ _ _ _ _ _ _ _ _ _) hS hl.1 k_6_217 k_6_185 k_1_2 k_6_186 hs_Tx_compare rfl rfl ⟨(Nat.le_of_ble_eq_true rfl), (Nat.le_of_ble_eq_true rfl)⟩ rfl (Nat.le_of_ble_eq_true rfl) ⟨Nat.zero_le _, Nat.zero_le _⟩ rfl d_Jd_asserts_197 (fun H locs hP hS => ?_)
    refine lv_if_lt (tgt := 207) hx hb d_Jd_asserts_200 (by decide) (fun c15 => ?_) (fun c15 => ?_)
    · replace h := o_tt c15 h
      refine lv_iconst (v := (0:Int32)) hx hb d_Jd_asserts_207 (by decide) ?_
      cases h
      exact o_rz (v := (0:Int32)) C o_nar0 hP hS d_Jd_asserts_208
    · replace h := o_ff c15 h
      refine lv_iconst (v := (1:Int32)) hx hb d_Jd_asserts_203 (by decide) ?_
      refine lv_goto (tgt := 208) hx hb d_Jd_asserts_204 (by decide) ?_
      cases h
      exact o_rz (v := (1:Int32)) C o_nar1 hP hS d_Jd_asserts_208
  replace h := o_ff c14 h
  by_cases c16 : w8 = (20:Int32)
  · replace h := o_tt c16 h
    refine lv_tableIn (off := 201) (tgt := 209) hx hb d_Jd_asserts_8 (by rw [c16]; decide) (by rw [c16]; decide) (by rw [c16]; rfl) (by decide) ?_
    refine lv_aload_n hx hb d_Jd_asserts_209 rfl (lv_at hl 0 rfl) ?_
    refine o_get (v := .ref (ad 12)) C in_Jd hP 49 cw_49 rfl 2 (by decide) k_2_76 rfl rfl d_Jd_asserts_210 ?_
    refine lv_iload_n hx hb d_Jd_asserts_213 rfl (lv_at hl 3 rfl) ?_
    refine lv_aload_n hx hb d_Jd_asserts_214 rfl (lv_at hl 0 rfl) ?_
    refine o_get (v := .ref (ad 1)) C in_Jd hP 49 cw_49 rfl 0 (by decide) k_2_74 rfl rfl d_Jd_asserts_215 ?_
    refine lv_iload_n hx hb d_Jd_asserts_218 rfl (lv_at hl 2 rfl) ?_
    obtain ⟨q8, hq8, h⟩ := o_bd_some h
    refine o_S (st1 := [.int q8]) (w1 := (o_cw ad ca rt Sj T0 T1 Rd Pg Pt Mk Lk Ck Jd Ld Pr)) hE.1 C (c_Tx_compare_10 hE l n x3 x2 T1 T0 Sj Rd Pg Pt Mk Lk Ck Jd Ld Pr rt hq8) hP (hDD _ _ _ _ _ _ _ _ _ _ _ _ _) hS hl.1 k_6_217 k_6_185 k_1_2 k_6_186 hs_Tx_compare rfl rfl ⟨(Nat.le_of_ble_eq_true rfl), (Nat.le_of_ble_eq_true rfl)⟩ rfl (Nat.le_of_ble_eq_true rfl) ⟨Nat.zero_le _, Nat.zero_le _⟩ rfl d_Jd_asserts_219 (fun H locs hP hS => ?_)
    refine lv_if_le (tgt := 229) hx hb d_Jd_asserts_222 (by decide) (fun c17 => ?_) (fun c17 => ?_)
    · replace h := o_tt c17 h
      refine lv_iconst (v := (0:Int32)) hx hb d_Jd_asserts_229 (by decide) ?_
      cases h
      exact o_rz (v := (0:Int32)) C o_nar0 hP hS d_Jd_asserts_230
    · replace h := o_ff c17 h
      refine lv_iconst (v := (1:Int32)) hx hb d_Jd_asserts_225 (by decide) ?_
      refine lv_goto (tgt := 230) hx hb d_Jd_asserts_226 (by decide) ?_
      cases h
      exact o_rz (v := (1:Int32)) C o_nar1 hP hS d_Jd_asserts_230
  replace h := o_ff c16 h
  by_cases c18 : w8 = (21:Int32)
  · replace h := o_tt c18 h
    refine lv_tableIn (off := 223) (tgt := 231) hx hb d_Jd_asserts_8 (by rw [c18]; decide) (by rw [c18]; decide) (by rw [c18]; rfl) (by decide) ?_
    refine lv_aload_n hx hb d_Jd_asserts_231 rfl (lv_at hl 0 rfl) ?_
    refine o_get (v := .ref (ad 12)) C in_Jd hP 49 cw_49 rfl 2 (by decide) k_2_76 rfl rfl d_Jd_asserts_232 ?_
    refine lv_iload_n hx hb d_Jd_asserts_235 rfl (lv_at hl 3 rfl) ?_
    obtain ⟨q9, hq9, h⟩ := o_bd_some h
    refine o_V (st1 := [.int q9]) (w1 := (o_cw ad ca rt Sj T0 T1 Rd Pg Pt Mk Lk Ck Jd Ld Pr)) hE.1 C (c_Tx_size_1 hE l x3 T1 Sj T0 Rd Pg Pt Mk Lk Ck Jd Ld Pr rt hq9) hP (hDD _ _ _ _ _ _ _ _ _ _ _ _ _) hS hl.1 rfl cw_12 k_6_26 k_3_215 k_3_216 k_1_2 k_3_217 hv_Tx_size rfl rfl ⟨(Nat.le_of_ble_eq_true rfl), (Nat.le_of_ble_eq_true rfl)⟩ rfl (Nat.le_of_ble_eq_true rfl) ⟨Nat.zero_le _, Nat.zero_le _⟩ rfl d_Jd_asserts_236 (fun H locs hP hS => ?_)
    refine lv_aload_n hx hb d_Jd_asserts_239 rfl (lv_at hl 0 rfl) ?_
    refine o_get (v := .ref (ad 1)) C in_Jd hP 49 cw_49 rfl 0 (by decide) k_2_74 rfl rfl d_Jd_asserts_240 ?_
    refine lv_iload_n hx hb d_Jd_asserts_243 rfl (lv_at hl 2 rfl) ?_
    obtain ⟨q10, hq10, h⟩ := o_bd_some h
    refine o_V (st1 := [.int q10, .int q9]) (w1 := (o_cw ad ca rt Sj T0 T1 Rd Pg Pt Mk Lk Ck Jd Ld Pr)) hE.1 C (c_Tx_wholeNumber_0 hE l n x2 T0 Sj T1 Rd Pg Pt Mk Lk Ck Jd Ld Pr rt hq10) hP (hDD _ _ _ _ _ _ _ _ _ _ _ _ _) hS hl.1 rfl cw_1 k_6_143 k_5_61 k_5_62 k_1_2 k_5_63 hv_Tx_wholeNumber rfl rfl ⟨(Nat.le_of_ble_eq_true rfl), (Nat.le_of_ble_eq_true rfl)⟩ rfl (Nat.le_of_ble_eq_true rfl) ⟨Nat.zero_le _, Nat.zero_le _⟩ rfl d_Jd_asserts_244 (fun H locs hP hS => ?_)
    refine lv_icmp_gt (tgt := 254) hx hb d_Jd_asserts_247 (by decide) (fun c19 => ?_) (fun c19 => ?_)
    · replace h := o_tt c19 h
      refine lv_iconst (v := (0:Int32)) hx hb d_Jd_asserts_254 (by decide) ?_
      cases h
      exact o_rz (v := (0:Int32)) C o_nar0 hP hS d_Jd_asserts_255
    · replace h := o_ff c19 h
      refine lv_iconst (v := (1:Int32)) hx hb d_Jd_asserts_250 (by decide) ?_
      refine lv_goto (tgt := 255) hx hb d_Jd_asserts_251 (by decide) ?_
      cases h
      exact o_rz (v := (1:Int32)) C o_nar1 hP hS d_Jd_asserts_255
  replace h := o_ff c18 h
  by_cases c20 : w8 = (22:Int32)
  · replace h := o_tt c20 h
    refine lv_tableIn (off := 223) (tgt := 231) hx hb d_Jd_asserts_8 (by rw [c20]; decide) (by rw [c20]; decide) (by rw [c20]; rfl) (by decide) ?_
    refine lv_aload_n hx hb d_Jd_asserts_231 rfl (lv_at hl 0 rfl) ?_
    refine o_get (v := .ref (ad 12)) C in_Jd hP 49 cw_49 rfl 2 (by decide) k_2_76 rfl rfl d_Jd_asserts_232 ?_
    refine lv_iload_n hx hb d_Jd_asserts_235 rfl (lv_at hl 3 rfl) ?_
    obtain ⟨q11, hq11, h⟩ := o_bd_some h
    refine o_V (st1 := [.int q11]) (w1 := (o_cw ad ca rt Sj T0 T1 Rd Pg Pt Mk Lk Ck Jd Ld Pr)) hE.1 C (c_Tx_size_1 hE l x3 T1 Sj T0 Rd Pg Pt Mk Lk Ck Jd Ld Pr rt hq11) hP (hDD _ _ _ _ _ _ _ _ _ _ _ _ _) hS hl.1 rfl cw_12 k_6_26 k_3_215 k_3_216 k_1_2 k_3_217 hv_Tx_size rfl rfl ⟨(Nat.le_of_ble_eq_true rfl), (Nat.le_of_ble_eq_true rfl)⟩ rfl (Nat.le_of_ble_eq_true rfl) ⟨Nat.zero_le _, Nat.zero_le _⟩ rfl d_Jd_asserts_236 (fun H locs hP hS => ?_)
    refine lv_aload_n hx hb d_Jd_asserts_239 rfl (lv_at hl 0 rfl) ?_
    refine o_get (v := .ref (ad 1)) C in_Jd hP 49 cw_49 rfl 0 (by decide) k_2_74 rfl rfl d_Jd_asserts_240 ?_
    refine lv_iload_n hx hb d_Jd_asserts_243 rfl (lv_at hl 2 rfl) ?_
    obtain ⟨q12, hq12, h⟩ := o_bd_some h
    refine o_V (st1 := [.int q12, .int q11]) (w1 := (o_cw ad ca rt Sj T0 T1 Rd Pg Pt Mk Lk Ck Jd Ld Pr)) hE.1 C (c_Tx_wholeNumber_0 hE l n x2 T0 Sj T1 Rd Pg Pt Mk Lk Ck Jd Ld Pr rt hq12) hP (hDD _ _ _ _ _ _ _ _ _ _ _ _ _) hS hl.1 rfl cw_1 k_6_143 k_5_61 k_5_62 k_1_2 k_5_63 hv_Tx_wholeNumber rfl rfl ⟨(Nat.le_of_ble_eq_true rfl), (Nat.le_of_ble_eq_true rfl)⟩ rfl (Nat.le_of_ble_eq_true rfl) ⟨Nat.zero_le _, Nat.zero_le _⟩ rfl d_Jd_asserts_244 (fun H locs hP hS => ?_)
    refine lv_icmp_gt (tgt := 254) hx hb d_Jd_asserts_247 (by decide) (fun c21 => ?_) (fun c21 => ?_)
    · replace h := o_tt c21 h
      refine lv_iconst (v := (0:Int32)) hx hb d_Jd_asserts_254 (by decide) ?_
      cases h
      exact o_rz (v := (0:Int32)) C o_nar0 hP hS d_Jd_asserts_255
    · replace h := o_ff c21 h
      refine lv_iconst (v := (1:Int32)) hx hb d_Jd_asserts_250 (by decide) ?_
      refine lv_goto (tgt := 255) hx hb d_Jd_asserts_251 (by decide) ?_
      cases h
      exact o_rz (v := (1:Int32)) C o_nar1 hP hS d_Jd_asserts_255
  replace h := o_ff c20 h
  by_cases c22 : w8 = (23:Int32)
  · replace h := o_tt c22 h
    refine lv_tableIn (off := 223) (tgt := 231) hx hb d_Jd_asserts_8 (by rw [c22]; decide) (by rw [c22]; decide) (by rw [c22]; rfl) (by decide) ?_
    refine lv_aload_n hx hb d_Jd_asserts_231 rfl (lv_at hl 0 rfl) ?_
    refine o_get (v := .ref (ad 12)) C in_Jd hP 49 cw_49 rfl 2 (by decide) k_2_76 rfl rfl d_Jd_asserts_232 ?_
    refine lv_iload_n hx hb d_Jd_asserts_235 rfl (lv_at hl 3 rfl) ?_
    obtain ⟨q13, hq13, h⟩ := o_bd_some h
    refine o_V (st1 := [.int q13]) (w1 := (o_cw ad ca rt Sj T0 T1 Rd Pg Pt Mk Lk Ck Jd Ld Pr)) hE.1 C (c_Tx_size_1 hE l x3 T1 Sj T0 Rd Pg Pt Mk Lk Ck Jd Ld Pr rt hq13) hP (hDD _ _ _ _ _ _ _ _ _ _ _ _ _) hS hl.1 rfl cw_12 k_6_26 k_3_215 k_3_216 k_1_2 k_3_217 hv_Tx_size rfl rfl ⟨(Nat.le_of_ble_eq_true rfl), (Nat.le_of_ble_eq_true rfl)⟩ rfl (Nat.le_of_ble_eq_true rfl) ⟨Nat.zero_le _, Nat.zero_le _⟩ rfl d_Jd_asserts_236 (fun H locs hP hS => ?_)
    refine lv_aload_n hx hb d_Jd_asserts_239 rfl (lv_at hl 0 rfl) ?_
    refine o_get (v := .ref (ad 1)) C in_Jd hP 49 cw_49 rfl 0 (by decide) k_2_74 rfl rfl d_Jd_asserts_240 ?_
    refine lv_iload_n hx hb d_Jd_asserts_243 rfl (lv_at hl 2 rfl) ?_
    obtain ⟨q14, hq14, h⟩ := o_bd_some h
    refine o_V (st1 := [.int q14, .int q13]) (w1 := (o_cw ad ca rt Sj T0 T1 Rd Pg Pt Mk Lk Ck Jd Ld Pr)) hE.1 C (c_Tx_wholeNumber_0 hE l n x2 T0 Sj T1 Rd Pg Pt Mk Lk Ck Jd Ld Pr rt hq14) hP (hDD _ _ _ _ _ _ _ _ _ _ _ _ _) hS hl.1 rfl cw_1 k_6_143 k_5_61 k_5_62 k_1_2 k_5_63 hv_Tx_wholeNumber rfl rfl ⟨(Nat.le_of_ble_eq_true rfl), (Nat.le_of_ble_eq_true rfl)⟩ rfl (Nat.le_of_ble_eq_true rfl) ⟨Nat.zero_le _, Nat.zero_le _⟩ rfl d_Jd_asserts_244 (fun H locs hP hS => ?_)
    refine lv_icmp_gt (tgt := 254) hx hb d_Jd_asserts_247 (by decide) (fun c23 => ?_) (fun c23 => ?_)
    · replace h := o_tt c23 h
      refine lv_iconst (v := (0:Int32)) hx hb d_Jd_asserts_254 (by decide) ?_
      cases h
      exact o_rz (v := (0:Int32)) C o_nar0 hP hS d_Jd_asserts_255
    · replace h := o_ff c23 h
      refine lv_iconst (v := (1:Int32)) hx hb d_Jd_asserts_250 (by decide) ?_
      refine lv_goto (tgt := 255) hx hb d_Jd_asserts_251 (by decide) ?_
      cases h
      exact o_rz (v := (1:Int32)) C o_nar1 hP hS d_Jd_asserts_255
  replace h := o_ff c22 h
  by_cases c24 : w8 = (24:Int32)
  · replace h := o_tt c24 h
    refine lv_tableIn (off := 248) (tgt := 256) hx hb d_Jd_asserts_8 (by rw [c24]; decide) (by rw [c24]; decide) (by rw [c24]; rfl) (by decide) ?_
    refine lv_aload_n hx hb d_Jd_asserts_256 rfl (lv_at hl 0 rfl) ?_
    refine o_get (v := .ref (ad 12)) C in_Jd hP 49 cw_49 rfl 2 (by decide) k_2_76 rfl rfl d_Jd_asserts_257 ?_
    refine lv_iload_n hx hb d_Jd_asserts_260 rfl (lv_at hl 3 rfl) ?_
    obtain ⟨q15, hq15, h⟩ := o_bd_some h
    refine o_V (st1 := [.int q15]) (w1 := (o_cw ad ca rt Sj T0 T1 Rd Pg Pt Mk Lk Ck Jd Ld Pr)) hE.1 C (c_Tx_size_1 hE l x3 T1 Sj T0 Rd Pg Pt Mk Lk Ck Jd Ld Pr rt hq15) hP (hDD _ _ _ _ _ _ _ _ _ _ _ _ _) hS hl.1 rfl cw_12 k_6_26 k_3_215 k_3_216 k_1_2 k_3_217 hv_Tx_size rfl rfl ⟨(Nat.le_of_ble_eq_true rfl), (Nat.le_of_ble_eq_true rfl)⟩ rfl (Nat.le_of_ble_eq_true rfl) ⟨Nat.zero_le _, Nat.zero_le _⟩ rfl d_Jd_asserts_261 (fun H locs hP hS => ?_)
    refine lv_aload_n hx hb d_Jd_asserts_264 rfl (lv_at hl 0 rfl) ?_
    refine o_get (v := .ref (ad 1)) C in_Jd hP 49 cw_49 rfl 0 (by decide) k_2_74 rfl rfl d_Jd_asserts_265 ?_
    refine lv_iload_n hx hb d_Jd_asserts_268 rfl (lv_at hl 2 rfl) ?_
    obtain ⟨q16, hq16, h⟩ := o_bd_some h
    refine o_V (st1 := [.int q16, .int q15]) (w1 := (o_cw ad ca rt Sj T0 T1 Rd Pg Pt Mk Lk Ck Jd Ld Pr)) hE.1 C (c_Tx_wholeNumber_0 hE l n x2 T0 Sj T1 Rd Pg Pt Mk Lk Ck Jd Ld Pr rt hq16) hP (hDD _ _ _ _ _ _ _ _ _ _ _ _ _) hS hl.1 rfl cw_1 k_6_143 k_5_61 k_5_62 k_1_2 k_5_63 hv_Tx_wholeNumber rfl rfl ⟨(Nat.le_of_ble_eq_true rfl), (Nat.le_of_ble_eq_true rfl)⟩ rfl (Nat.le_of_ble_eq_true rfl) ⟨Nat.zero_le _, Nat.zero_le _⟩ rfl d_Jd_asserts_269 (fun H locs hP hS => ?_)
    refine lv_icmp_lt (tgt := 279) hx hb d_Jd_asserts_272 (by decide) (fun c25 => ?_) (fun c25 => ?_)
    · replace h := o_tt c25 h
      refine lv_iconst (v := (0:Int32)) hx hb d_Jd_asserts_279 (by decide) ?_
      cases h
      exact o_rz (v := (0:Int32)) C o_nar0 hP hS d_Jd_asserts_280
    · replace h := o_ff c25 h
      refine lv_iconst (v := (1:Int32)) hx hb d_Jd_asserts_275 (by decide) ?_
      refine lv_goto (tgt := 280) hx hb d_Jd_asserts_276 (by decide) ?_
      cases h
      exact o_rz (v := (1:Int32)) C o_nar1 hP hS d_Jd_asserts_280
  replace h := o_ff c24 h
  by_cases c26 : w8 = (25:Int32)
  · replace h := o_tt c26 h
    refine lv_tableIn (off := 248) (tgt := 256) hx hb d_Jd_asserts_8 (by rw [c26]; decide) (by rw [c26]; decide) (by rw [c26]; rfl) (by decide) ?_
    refine lv_aload_n hx hb d_Jd_asserts_256 rfl (lv_at hl 0 rfl) ?_
    refine o_get (v := .ref (ad 12)) C in_Jd hP 49 cw_49 rfl 2 (by decide) k_2_76 rfl rfl d_Jd_asserts_257 ?_
    refine lv_iload_n hx hb d_Jd_asserts_260 rfl (lv_at hl 3 rfl) ?_
    obtain ⟨q17, hq17, h⟩ := o_bd_some h
    refine o_V (st1 := [.int q17]) (w1 := (o_cw ad ca rt Sj T0 T1 Rd Pg Pt Mk Lk Ck Jd Ld Pr)) hE.1 C (c_Tx_size_1 hE l x3 T1 Sj T0 Rd Pg Pt Mk Lk Ck Jd Ld Pr rt hq17) hP (hDD _ _ _ _ _ _ _ _ _ _ _ _ _) hS hl.1 rfl cw_12 k_6_26 k_3_215 k_3_216 k_1_2 k_3_217 hv_Tx_size rfl rfl ⟨(Nat.le_of_ble_eq_true rfl), (Nat.le_of_ble_eq_true rfl)⟩ rfl (Nat.le_of_ble_eq_true rfl) ⟨Nat.zero_le _, Nat.zero_le _⟩ rfl d_Jd_asserts_261 (fun H locs hP hS => ?_)
    refine lv_aload_n hx hb d_Jd_asserts_264 rfl (lv_at hl 0 rfl) ?_
    refine o_get (v := .ref (ad 1)) C in_Jd hP 49 cw_49 rfl 0 (by decide) k_2_74 rfl rfl d_Jd_asserts_265 ?_
    refine lv_iload_n hx hb d_Jd_asserts_268 rfl (lv_at hl 2 rfl) ?_
    obtain ⟨q18, hq18, h⟩ := o_bd_some h
    refine o_V (st1 := [.int q18, .int q17]) (w1 := (o_cw ad ca rt Sj T0 T1 Rd Pg Pt Mk Lk Ck Jd Ld Pr)) hE.1 C (c_Tx_wholeNumber_0 hE l n x2 T0 Sj T1 Rd Pg Pt Mk Lk Ck Jd Ld Pr rt hq18) hP (hDD _ _ _ _ _ _ _ _ _ _ _ _ _) hS hl.1 rfl cw_1 k_6_143 k_5_61 k_5_62 k_1_2 k_5_63 hv_Tx_wholeNumber rfl rfl ⟨(Nat.le_of_ble_eq_true rfl), (Nat.le_of_ble_eq_true rfl)⟩ rfl (Nat.le_of_ble_eq_true rfl) ⟨Nat.zero_le _, Nat.zero_le _⟩ rfl d_Jd_asserts_269 (fun H locs hP hS => ?_)
    refine lv_icmp_lt (tgt := 279) hx hb d_Jd_asserts_272 (by decide) (fun c27 => ?_) (fun c27 => ?_)
    · replace h := o_tt c27 h
      refine lv_iconst (v := (0:Int32)) hx hb d_Jd_asserts_279 (by decide) ?_
      cases h
      exact o_rz (v := (0:Int32)) C o_nar0 hP hS d_Jd_asserts_280
    · replace h := o_ff c27 h
      refine lv_iconst (v := (1:Int32)) hx hb d_Jd_asserts_275 (by decide) ?_
      refine lv_goto (tgt := 280) hx hb d_Jd_asserts_276 (by decide) ?_
      cases h
      exact o_rz (v := (1:Int32)) C o_nar1 hP hS d_Jd_asserts_280
  replace h := o_ff c26 h
  by_cases c28 : w8 = (26:Int32)
  · replace h := o_tt c28 h
    refine lv_tableIn (off := 248) (tgt := 256) hx hb d_Jd_asserts_8 (by rw [c28]; decide) (by rw [c28]; decide) (by rw [c28]; rfl) (by decide) ?_
    refine lv_aload_n hx hb d_Jd_asserts_256 rfl (lv_at hl 0 rfl) ?_
    refine o_get (v := .ref (ad 12)) C in_Jd hP 49 cw_49 rfl 2 (by decide) k_2_76 rfl rfl d_Jd_asserts_257 ?_
    refine lv_iload_n hx hb d_Jd_asserts_260 rfl (lv_at hl 3 rfl) ?_
    obtain ⟨q19, hq19, h⟩ := o_bd_some h
    refine o_V (st1 := [.int q19]) (w1 := (o_cw ad ca rt Sj T0 T1 Rd Pg Pt Mk Lk Ck Jd Ld Pr)) hE.1 C (c_Tx_size_1 hE l x3 T1 Sj T0 Rd Pg Pt Mk Lk Ck Jd Ld Pr rt hq19) hP (hDD _ _ _ _ _ _ _ _ _ _ _ _ _) hS hl.1 rfl cw_12 k_6_26 k_3_215 k_3_216 k_1_2 k_3_217 hv_Tx_size rfl rfl ⟨(Nat.le_of_ble_eq_true rfl), (Nat.le_of_ble_eq_true rfl)⟩ rfl (Nat.le_of_ble_eq_true rfl) ⟨Nat.zero_le _, Nat.zero_le _⟩ rfl d_Jd_asserts_261 (fun H locs hP hS => ?_)
    refine lv_aload_n hx hb d_Jd_asserts_264 rfl (lv_at hl 0 rfl) ?_
    refine o_get (v := .ref (ad 1)) C in_Jd hP 49 cw_49 rfl 0 (by decide) k_2_74 rfl rfl d_Jd_asserts_265 ?_
    refine lv_iload_n hx hb d_Jd_asserts_268 rfl (lv_at hl 2 rfl) ?_
    obtain ⟨q20, hq20, h⟩ := o_bd_some h
    refine o_V (st1 := [.int q20, .int q19]) (w1 := (o_cw ad ca rt Sj T0 T1 Rd Pg Pt Mk Lk Ck Jd Ld Pr)) hE.1 C (c_Tx_wholeNumber_0 hE l n x2 T0 Sj T1 Rd Pg Pt Mk Lk Ck Jd Ld Pr rt hq20) hP (hDD _ _ _ _ _ _ _ _ _ _ _ _ _) hS hl.1 rfl cw_1 k_6_143 k_5_61 k_5_62 k_1_2 k_5_63 hv_Tx_wholeNumber rfl rfl ⟨(Nat.le_of_ble_eq_true rfl), (Nat.le_of_ble_eq_true rfl)⟩ rfl (Nat.le_of_ble_eq_true rfl) ⟨Nat.zero_le _, Nat.zero_le _⟩ rfl d_Jd_asserts_269 (fun H locs hP hS => ?_)
    refine lv_icmp_lt (tgt := 279) hx hb d_Jd_asserts_272 (by decide) (fun c29 => ?_) (fun c29 => ?_)
    · replace h := o_tt c29 h
      refine lv_iconst (v := (0:Int32)) hx hb d_Jd_asserts_279 (by decide) ?_
      cases h
      exact o_rz (v := (0:Int32)) C o_nar0 hP hS d_Jd_asserts_280
    · replace h := o_ff c29 h
      refine lv_iconst (v := (1:Int32)) hx hb d_Jd_asserts_275 (by decide) ?_
      refine lv_goto (tgt := 280) hx hb d_Jd_asserts_276 (by decide) ?_
      cases h
      exact o_rz (v := (1:Int32)) C o_nar1 hP hS d_Jd_asserts_280
  replace h := o_ff c28 h
  by_cases c30 : w8 = (27:Int32)
  · replace h := o_tt c30 h
    refine lv_tableIn (off := 273) (tgt := 281) hx hb d_Jd_asserts_8 (by rw [c30]; decide) (by rw [c30]; decide) (by rw [c30]; rfl) (by decide) ?_
    refine lv_aload_n hx hb d_Jd_asserts_281 rfl (lv_at hl 0 rfl) ?_
    refine o_get (v := .ref (ad 33)) C in_Jd hP 49 cw_49 rfl 3 (by decide) k_2_77 rfl rfl d_Jd_asserts_282 ?_
    refine lv_aload_n hx hb d_Jd_asserts_285 rfl (lv_at hl 0 rfl) ?_
    refine o_get (v := .ref (ad 1)) C in_Jd hP 49 cw_49 rfl 0 (by decide) k_2_74 rfl rfl d_Jd_asserts_286 ?_
    refine lv_iload_n hx hb d_Jd_asserts_289 rfl (lv_at hl 2 rfl) ?_
    obtain ⟨q21, hq21, h⟩ := o_bd_some h
    refine o_V (st1 := [.int q21.1]) (w1 := (o_cw ad ca rt Sj T0 T1 Rd Pg q21.2 Mk Lk Ck Jd Ld Pr)) hE.1 C (c_Pt_tokenise_0 hE l n x2 T0 Pt Sj T1 Rd Pg Mk Lk Ck Jd Ld Pr rt hq21) hP (hDD _ _ _ _ _ _ _ _ _ _ _ _ _) hS hl.1 rfl cw_33 k_6_83 k_4_109 k_4_110 k_1_5 k_4_111 hv_Pt_tokenise rfl rfl ⟨(Nat.le_of_ble_eq_true rfl), (Nat.le_of_ble_eq_true rfl)⟩ rfl (Nat.le_of_ble_eq_true rfl) ⟨Nat.zero_le _, Nat.zero_le _⟩ rfl d_Jd_asserts_290 (fun H locs hP hS => ?_)
    refine lv_if_eq (tgt := 325) hx hb d_Jd_asserts_293 (by decide) (fun c31 => ?_) (fun c31 => ?_)
    · replace h := o_tt c31 h
      refine lv_iconst (v := (0:Int32)) hx hb d_Jd_asserts_325 (by decide) ?_
      cases h
      exact o_rz (v := (0:Int32)) C o_nar0 hP hS d_Jd_asserts_326
    · replace h := o_ff c31 h
      refine lv_aload_n hx hb d_Jd_asserts_296 rfl (lv_at hl 0 rfl) ?_
      refine o_get (v := .ref (ad 33)) C in_Jd hP 49 cw_49 rfl 3 (by decide) k_2_77 rfl rfl d_Jd_asserts_297 ?_
      obtain ⟨q22, hq22, h⟩ := o_bd_some h
      refine o_V (st1 := [.int q22.1]) (w1 := (o_cw ad ca rt Sj T0 T1 Rd q22.2.1 q22.2.2 Mk Lk Ck Jd Ld Pr)) hE.1 C (c_Pt_parse hE l n Pg q21.2 Sj T0 T1 Rd Mk Lk Ck Jd Ld Pr rt hq22) hP (hDD _ _ _ _ _ _ _ _ _ _ _ _ _) hS hl.1 rfl cw_33 k_6_84 k_4_203 k_4_204 k_1_5 k_4_205 hv_Pt_parse rfl rfl ⟨(Nat.le_of_ble_eq_true rfl), (Nat.le_of_ble_eq_true rfl)⟩ rfl (Nat.le_of_ble_eq_true rfl) ⟨Nat.zero_le _, Nat.zero_le _⟩ rfl d_Jd_asserts_300 (fun H locs hP hS => ?_)
      refine lv_if_eq (tgt := 325) hx hb d_Jd_asserts_303 (by decide) (fun c32 => ?_) (fun c32 => ?_)
      · replace h := o_tt c32 h
        refine lv_iconst (v := (0:Int32)) hx hb d_Jd_asserts_325 (by decide) ?_
        cases h
        exact o_rz (v := (0:Int32)) C o_nar0 hP hS d_Jd_asserts_326
      · replace h := o_ff c32 h
        refine lv_aload_n hx hb d_Jd_asserts_306 rfl (lv_at hl 0 rfl) ?_
        refine o_get (v := .ref (ad 25)) C in_Jd hP 49 cw_49 rfl 4 (by decide) k_2_78 rfl rfl d_Jd_asserts_307 ?_
        refine lv_aload_n hx hb d_Jd_asserts_310 rfl (lv_at hl 0 rfl) ?_
        refine o_get (v := .ref (ad 12)) C in_Jd hP 49 cw_49 rfl 2 (by decide) k_2_76 rfl rfl d_Jd_asserts_311 ?_
        refine lv_iload_n hx hb d_Jd_asserts_314 rfl (lv_at hl 3 rfl) ?_
        obtain ⟨q23, hq23, h⟩ := o_bd_some h
        refine o_V (st1 := [.int q23.1]) (w1 := (o_cw ad ca rt Sj T0 T1 Rd q23.2 q22.2.2 Mk Lk Ck Jd Ld Pr)) hE.1 C (c_Pg_finds_1 hE l n x3 T1 q22.2.1 Sj T0 Rd q22.2.2 Mk Lk Ck Jd Ld Pr rt hq23) hP (hDD _ _ _ _ _ _ _ _ _ _ _ _ _) hS hl.1 rfl cw_25 k_6_85 k_6_86 k_6_87 k_1_4 k_6_88 hv_Pg_finds rfl rfl ⟨(Nat.le_of_ble_eq_true rfl), (Nat.le_of_ble_eq_true rfl)⟩ rfl (Nat.le_of_ble_eq_true rfl) ⟨Nat.zero_le _, Nat.zero_le _⟩ rfl d_Jd_asserts_315 (fun H locs hP hS => ?_)
        refine lv_if_eq (tgt := 325) hx hb d_Jd_asserts_318 (by decide) (fun c33 => ?_) (fun c33 => ?_)
        · replace h := o_tt c33 h
          refine lv_iconst (v := (0:Int32)) hx hb d_Jd_asserts_325 (by decide) ?_
          cases h
          exact o_rz (v := (0:Int32)) C o_nar0 hP hS d_Jd_asserts_326
        · replace h := o_ff c33 h
          refine lv_iconst (v := (1:Int32)) hx hb d_Jd_asserts_321 (by decide) ?_
          refine lv_goto (tgt := 326) hx hb d_Jd_asserts_322 (by decide) ?_
          cases h
          exact o_rz (v := (1:Int32)) C o_nar1 hP hS d_Jd_asserts_326
  replace h := o_ff c30 h
  by_cases c34 : w8 = (28:Int32)
  · replace h := o_tt c34 h
    refine lv_tableIn (off := 319) (tgt := 327) hx hb d_Jd_asserts_8 (by rw [c34]; decide) (by rw [c34]; decide) (by rw [c34]; rfl) (by decide) ?_
    refine lv_aload_n hx hb d_Jd_asserts_327 rfl (lv_at hl 0 rfl) ?_
    refine o_get (v := .ref (ad 1)) C in_Jd hP 49 cw_49 rfl 0 (by decide) k_2_74 rfl rfl d_Jd_asserts_328 ?_
    refine lv_iload_n hx hb d_Jd_asserts_331 rfl (lv_at hl 2 rfl) ?_
    obtain ⟨q24, hq24, h⟩ := o_bd_some h
    refine o_V (st1 := [.int q24]) (w1 := (o_cw ad ca rt Sj T0 T1 Rd Pg Pt Mk Lk Ck Jd Ld Pr)) hE.1 C (c_Tx_kind_0 hE l x2 T0 Sj T1 Rd Pg Pt Mk Lk Ck Jd Ld Pr rt hq24) hP (hDD _ _ _ _ _ _ _ _ _ _ _ _ _) hS hl.1 rfl cw_1 k_6_16 k_4_50 k_4_51 k_1_2 k_4_52 hv_Tx_kind rfl rfl ⟨(Nat.le_of_ble_eq_true rfl), (Nat.le_of_ble_eq_true rfl)⟩ rfl (Nat.le_of_ble_eq_true rfl) ⟨Nat.zero_le _, Nat.zero_le _⟩ rfl d_Jd_asserts_332 (fun H locs hP hS => ?_)
    refine lv_iconst (v := (1:Int32)) hx hb d_Jd_asserts_335 (by decide) ?_
    refine lv_icmp_eq (tgt := 347) hx hb d_Jd_asserts_336 (by decide) (fun c35 => ?_) (fun c35 => ?_)
    · replace h := o_tt c35 h
      refine lv_iconst (v := (1:Int32)) hx hb d_Jd_asserts_347 (by decide) ?_
      refine lv_goto (tgt := 352) hx hb d_Jd_asserts_348 (by decide) ?_
      cases h
      exact o_rz (v := (1:Int32)) C o_nar1 hP hS d_Jd_asserts_352
    · replace h := o_ff c35 h
      refine lv_aload_n hx hb d_Jd_asserts_339 rfl (lv_at hl 0 rfl) ?_
      refine lv_iload_n hx hb d_Jd_asserts_340 rfl (lv_at hl 3 rfl) ?_
      obtain ⟨q25, hq25, h⟩ := o_bd_some h
      refine o_V (st1 := [.int q25]) (w1 := (o_cw ad ca rt Sj T0 T1 Rd Pg Pt Mk Lk Ck Jd Ld Pr)) hE.1 C (c_Jd_allDiffer hE l n x3 T1 Sj T0 Rd Pg Pt Mk Lk Ck Jd Ld Pr rt hq25) hP (hDD _ _ _ _ _ _ _ _ _ _ _ _ _) hS hl.1 rfl cw_49 k_6_218 k_6_220 k_s_78 k_1_9 k_6_221 hv_Jd_allDiffer rfl rfl ⟨(Nat.le_of_ble_eq_true rfl), (Nat.le_of_ble_eq_true rfl)⟩ rfl (Nat.le_of_ble_eq_true rfl) ⟨Nat.zero_le _, Nat.zero_le _⟩ rfl d_Jd_asserts_341 (fun H locs hP hS => ?_)
      refine lv_if_eq (tgt := 351) hx hb d_Jd_asserts_344 (by decide) (fun c36 => ?_) (fun c36 => ?_)
      · replace h := o_tt c36 h
        refine lv_iconst (v := (0:Int32)) hx hb d_Jd_asserts_351 (by decide) ?_
        cases h
        exact o_rz (v := (0:Int32)) C o_nar0 hP hS d_Jd_asserts_352
      · replace h := o_ff c36 h
        refine lv_iconst (v := (1:Int32)) hx hb d_Jd_asserts_347 (by decide) ?_
        refine lv_goto (tgt := 352) hx hb d_Jd_asserts_348 (by decide) ?_
        cases h
        exact o_rz (v := (1:Int32)) C o_nar1 hP hS d_Jd_asserts_352
  replace h := o_ff c34 h
  by_cases c37 : w8 = (29:Int32)
  · replace h := o_tt c37 h
    refine lv_tableIn (off := 345) (tgt := 353) hx hb d_Jd_asserts_8 (by rw [c37]; decide) (by rw [c37]; decide) (by rw [c37]; rfl) (by decide) ?_
    refine lv_aload_n hx hb d_Jd_asserts_353 rfl (lv_at hl 0 rfl) ?_
    refine lv_iload_n hx hb d_Jd_asserts_354 rfl (lv_at hl 2 rfl) ?_
    refine lv_iload_n hx hb d_Jd_asserts_355 rfl (lv_at hl 3 rfl) ?_
    obtain ⟨q26, hq26, h⟩ := o_bd_some h
    refine o_V (st1 := [.int q26]) (w1 := (o_cw ad ca rt Sj T0 T1 Rd Pg Pt Mk Lk Ck Jd Ld Pr)) hE.1 C (c_Jd_hasAll hE l n x2 x3 T0 T1 Sj Rd Pg Pt Mk Lk Ck Jd Ld Pr rt hq26) hP (hDD _ _ _ _ _ _ _ _ _ _ _ _ _) hS hl.1 rfl cw_49 k_6_222 k_6_224 k_s_79 k_1_9 k_6_225 hv_Jd_hasAll rfl rfl ⟨(Nat.le_of_ble_eq_true rfl), (Nat.le_of_ble_eq_true rfl)⟩ rfl (Nat.le_of_ble_eq_true rfl) ⟨Nat.zero_le _, Nat.zero_le _⟩ rfl d_Jd_asserts_356 (fun H locs hP hS => ?_)
    obtain ⟨g38, h⟩ := o_gd_some h
    cases h
    exact o_rz C (o_zb_nar g38) hP hS d_Jd_asserts_359
  replace h := o_ff c37 h
  by_cases c39 : w8 = (30:Int32)
  · replace h := o_tt c39 h
    refine lv_tableIn (off := 352) (tgt := 360) hx hb d_Jd_asserts_8 (by rw [c39]; decide) (by rw [c39]; decide) (by rw [c39]; rfl) (by decide) ?_
    refine lv_aload_n hx hb d_Jd_asserts_360 rfl (lv_at hl 0 rfl) ?_
    refine lv_iload_n hx hb d_Jd_asserts_361 rfl (lv_at hl 2 rfl) ?_
    refine lv_iload_n hx hb d_Jd_asserts_362 rfl (lv_at hl 3 rfl) ?_
    obtain ⟨q27, hq27, h⟩ := o_bd_some h
    refine o_V (st1 := [.int q27]) (w1 := (o_cw ad ca rt Sj T0 T1 Rd Pg Pt Mk Lk Ck Jd Ld Pr)) hE.1 C (c_Jd_hasDependents hE l n x2 x3 T0 T1 Sj Rd Pg Pt Mk Lk Ck Jd Ld Pr rt hq27) hP (hDD _ _ _ _ _ _ _ _ _ _ _ _ _) hS hl.1 rfl cw_49 k_6_226 k_6_228 k_s_80 k_1_9 k_6_229 hv_Jd_hasDependents rfl rfl ⟨(Nat.le_of_ble_eq_true rfl), (Nat.le_of_ble_eq_true rfl)⟩ rfl (Nat.le_of_ble_eq_true rfl) ⟨Nat.zero_le _, Nat.zero_le _⟩ rfl d_Jd_asserts_363 (fun H locs hP hS => ?_)
    obtain ⟨g40, h⟩ := o_gd_some h
    cases h
    exact o_rz C (o_zb_nar g40) hP hS d_Jd_asserts_366
  replace h := o_ff c39 h
  refine lv_tableOut (tgt := 367) hx hb d_Jd_asserts_8 (by have ec2 := o_ne_i (n := 13) (by decide) c2; have ec4 := o_ne_i (n := 14) (by decide) c4; have ec6 := o_ne_i (n := 15) (by decide) c6; have ec8 := o_ne_i (n := 16) (by decide) c8; have ec10 := o_ne_i (n := 17) (by decide) c10; have ec12 := o_ne_i (n := 18) (by decide) c12; have ec14 := o_ne_i (n := 19) (by decide) c14; have ec16 := o_ne_i (n := 20) (by decide) c16; have ec18 := o_ne_i (n := 21) (by decide) c18; have ec20 := o_ne_i (n := 22) (by decide) c20; have ec22 := o_ne_i (n := 23) (by decide) c22; have ec24 := o_ne_i (n := 24) (by decide) c24; have ec26 := o_ne_i (n := 25) (by decide) c26; have ec28 := o_ne_i (n := 26) (by decide) c28; have ec30 := o_ne_i (n := 27) (by decide) c30; have ec34 := o_ne_i (n := 28) (by decide) c34; have ec37 := o_ne_i (n := 29) (by decide) c37; have ec39 := o_ne_i (n := 30) (by decide) c39; omega) (by decide) ?_
  refine lv_iconst (v := (1:Int32)) hx hb d_Jd_asserts_367 (by decide) ?_
  cases h
  exact o_rz (v := (1:Int32)) C o_nar1 hP hS d_Jd_asserts_368
set_option maxHeartbeats 4000000 in
set_option maxRecDepth 100000 in
theorem c_Tx_slot_1 {E : (Nat → Prop) → State → Heap → Prop} {D : va_G} {ad kd sd vd xd : Nat → Nat} {ca : Nat → ClassId} (hE : o_EK E kd sd vd xd) (l : Launch) (x1 : Int32) (a0 : STx) (Sj : SSJ) (T0 : STx) (Rd : SRd) (Pg : SPg) (Pt : SPt) (Mk : SMk) (Lk : SLk) (Ck : SCk) (Jd : SJd) (Ld : SLd) (Pr : SPr) (rt : Nat) {r : Int32} (h : m_Tx_slot x1 a0 = some r) : o_Cn E l D o_cls (o_tys ca) y_Tx_slot cc_Tx_slot rm_Tx_slot [.ref (ad 12), .int x1] (o_cw ad ca rt Sj T0 a0 Rd Pg Pt Mk Lk Ck Jd Ld Pr) (o_cw ad ca rt Sj T0 a0 Rd Pg Pt Mk Lk Ck Jd Ld Pr) (some (.int r)) := by
  refine o_Cn_of (by decide) (Nat.le_of_ble_eq_true rfl) ?_
  intro p e s m below meth c A ls C hD hP hS hl
  have hDD : ∀ (rt : Nat) (Sj : SSJ) (T0 : STx) (T1 : STx) (Rd : SRd) (Pg : SPg) (Pt : SPt) (Mk : SMk) (Lk : SLk) (Ck : SCk) (Jd : SJd) (Ld : SLd) (Pr : SPr), va_D A (o_cw ad ca rt Sj T0 T1 Rd Pg Pt Mk Lk Ck Jd Ld Pr) := fun _ _ _ _ _ _ _ _ _ _ _ _ _ => o_D_map hD rfl
  have hl : lv_has ls 2 [(0, .ref (ad 12)), (1, .int x1)] := hl
  unfold m_Tx_slot at h
  have C0 := C
  obtain ⟨hx, hb, -, -, -, hown, hts, hK, -, -⟩ := C0
  refine lv_iload_n hx hb d_Tx_slot_0 rfl (lv_at hl 1 rfl) ?_
  refine lv_if_lt (tgt := 21) hx hb d_Tx_slot_1 (by decide) (fun c1 => ?_) (fun c1 => ?_)
  · replace h := o_tt c1 h
    refine lv_iconst (v := (0:Int32)) hx hb d_Tx_slot_21 (by decide) ?_
    cases h
    exact o_ri (v := (0:Int32)) C hP hS d_Tx_slot_22
  · replace h := o_ff c1 h
    refine lv_iload_n hx hb d_Tx_slot_4 rfl (lv_at hl 1 rfl) ?_
    refine lv_aload_n hx hb d_Tx_slot_5 rfl (lv_at hl 0 rfl) ?_
    refine o_get (v := .int (Tx_total a0)) C in_Tx hP 12 cw_12 rfl 10 (by decide) k_1_56 rfl rfl d_Tx_slot_6 ?_
    refine lv_icmp_ge (tgt := 21) hx hb d_Tx_slot_9 (by decide) (fun c2 => ?_) (fun c2 => ?_)
    · replace h := o_tt c2 h
      refine lv_iconst (v := (0:Int32)) hx hb d_Tx_slot_21 (by decide) ?_
      cases h
      exact o_ri (v := (0:Int32)) C hP hS d_Tx_slot_22
    · replace h := o_ff c2 h
      refine lv_aload_n hx hb d_Tx_slot_12 rfl (lv_at hl 0 rfl) ?_
      refine o_get (v := .ref (ad 20)) C in_Tx hP 12 cw_12 rfl 7 (by decide) k_1_53 rfl rfl d_Tx_slot_13 ?_
      refine lv_iload_n hx hb d_Tx_slot_16 rfl (lv_at hl 1 rfl) ?_
      obtain ⟨g3, h⟩ := o_gd_some h
      refine o_iald (f := (Tx_slots a0)) C hP 20 17 cw_20 rfl g3 d_Tx_slot_17 ?_
      refine lv_goto (tgt := 22) hx hb d_Tx_slot_18 (by decide) ?_
      cases h
      exact o_ri (v := ((Tx_slots a0) x1.toNatClampNeg)) C hP hS d_Tx_slot_22
set_option maxHeartbeats 4000000 in
set_option maxRecDepth 100000 in
theorem w_Jd_apply_j231 {E : (Nat → Prop) → State → Heap → Prop} {p : Program} {l : Launch} {e : Env} {s : State} {m : MethodId} {args : Array Value} {below : List Frame} {meth : Method} {c : Code} {D : va_G} {ad kd sd vd xd : Nat → Nat} {ca : Nat → ClassId} {A : Nat → Prop} {Q : State → Prop} (hE : o_EK E kd sd vd xd) (C : o_Cx E p s m args meth c D o_cls (o_tys ca) "SchemaJudge$Judge" b_Jd_apply (some .boolean) 17 cc_Jd_apply A) (hDD : ∀ (rt : Nat) (Sj : SSJ) (T0 : STx) (T1 : STx) (Rd : SRd) (Pg : SPg) (Pt : SPt) (Mk : SMk) (Lk : SLk) (Ck : SCk) (Jd : SJd) (Ld : SLd) (Pr : SPr), va_D A (o_cw ad ca rt Sj T0 T1 Rd Pg Pt Mk Lk Ck Jd Ld Pr)) (d : Nat) (rec : Int32 → Int32 → Int32 → STx → STx → SPg → SPt → SMk → SLd → SPr → SJd → Option (Int32 × SPg × SPt × SLd × SPr × SJd)) (hrec : ∀ (x1 : Int32) (x2 : Int32) (x3 : Int32) (T0 : STx) (T1 : STx) (Pg : SPg) (Pt : SPt) (Mk : SMk) (Ld : SLd) (Pr : SPr) (Jd : SJd) (Sj : SSJ) (Rd : SRd) (Lk : SLk) (Ck : SCk) (rt : Nat) (r : Int32 × SPg × SPt × SLd × SPr × SJd), rec x1 x2 x3 T0 T1 Pg Pt Mk Ld Pr Jd = some r → o_Cn E l D o_cls (o_tys ca) y_Jd_evaluate cc_Jd_evaluate (rm_Jd_evaluate d) [.ref (ad 49), .int x1, .int x2, .int x3] (o_cw ad ca rt Sj T0 T1 Rd Pg Pt Mk Lk Ck Jd Ld Pr) (o_cw ad ca rt Sj T0 T1 Rd r.2.1 r.2.2.1 Mk Lk Ck r.2.2.2.2.2 r.2.2.2.1 r.2.2.2.2.1) (some (.int r.1))) (n : Nat) (u123_x1 : Nat) (gu123_x1 : o_kb u123_x1 = true) (u123_x2 : Int32) (u123_x3 : Int32) (u123_x4 : Int32) (u123_x5 : Int32) (u123_x8 : Int32) (u123_x9 : Int32) (u123_x10 : Int32) (u123_x11 : Int64) (u123_x14 : Int32) (u123_T0 : STx) (u123_T1 : STx) (u123_Mk : SMk) (u123_Sj : SSJ) (u123_Rd : SRd) (u123_Lk : SLk) (u123_Ck : SCk) (u123_rt : Nat) (x6 : Int32) (x7 : Int32) (x13 : Int32) (x15 : Int32) (Pg : SPg) (Pt : SPt) (Ld : SLd) (Pr : SPr) (Jd : SJd) {q : Nat × Int32 × Int32 × Int32 × Int32 × SPg × SPt × SLd × SPr × SJd} (h : m_Jd_apply_j231 n rec u123_x1 u123_x2 u123_x3 u123_x4 u123_x5 x6 x7 u123_x8 u123_x9 u123_x10 u123_x11 x13 u123_x14 x15 u123_T0 u123_T1 Pg Pt u123_Mk Ld Pr Jd = some q) (h0 : q.1 = 0 → o_At p l e (rm_Jd_apply d) s m args below meth c Q o_cls D A 17 123 [] (o_cw ad ca u123_rt u123_Sj u123_T0 u123_T1 u123_Rd q.2.2.2.2.2.1 q.2.2.2.2.2.2.1 u123_Mk u123_Lk u123_Ck q.2.2.2.2.2.2.2.2.2 q.2.2.2.2.2.2.2.1 q.2.2.2.2.2.2.2.2.1) [(0, .ref (ad 49)), (1, .ref (kd u123_x1)), (2, .int u123_x2), (3, .int u123_x3), (4, .int u123_x4), (5, .int u123_x5), (6, .int q.2.1), (7, .int q.2.2.1), (8, .int u123_x8), (9, .int u123_x9), (10, .int u123_x10), (11, .long u123_x11), (13, .int q.2.2.2.1), (14, .int u123_x14), (15, .int q.2.2.2.2.1)]) (h1 : q.1 ≠ 0 → (o_At p l e (rm_Jd_apply d) s m args below meth c Q o_cls D A 17 248 [] (o_cw ad ca u123_rt u123_Sj u123_T0 u123_T1 u123_Rd q.2.2.2.2.2.1 q.2.2.2.2.2.2.1 u123_Mk u123_Lk u123_Ck q.2.2.2.2.2.2.2.2.2 q.2.2.2.2.2.2.2.1 q.2.2.2.2.2.2.2.2.1) [(0, .ref (ad 49)), (1, .ref (kd u123_x1)), (2, .int u123_x2), (3, .int u123_x3), (4, .int u123_x4), (5, .int u123_x5), (6, .int q.2.1), (7, .int q.2.2.1), (8, .int u123_x8), (9, .int u123_x9), (10, .int u123_x10)])) : o_At p l e (rm_Jd_apply d) s m args below meth c Q o_cls D A 17 231 [] (o_cw ad ca u123_rt u123_Sj u123_T0 u123_T1 u123_Rd Pg Pt u123_Mk u123_Lk u123_Ck Jd Ld Pr) [(0, .ref (ad 49)), (1, .ref (kd u123_x1)), (2, .int u123_x2), (3, .int u123_x3), (4, .int u123_x4), (5, .int u123_x5), (6, .int x6), (7, .int x7), (8, .int u123_x8), (9, .int u123_x9), (10, .int u123_x10), (11, .long u123_x11), (13, .int x13), (14, .int u123_x14), (15, .int x15)] := by
  unfold m_Jd_apply_j231 at h
  intro H locs ls hP hS hl
  have C0 := C
  obtain ⟨hx, hb, -, -, -, hown, hts, hK, -, -⟩ := C0
  refine lv_aload_n hx hb d_Jd_apply_231 rfl (lv_at hl 0 rfl) ?_
  refine o_get (v := .ref (ad 12)) C in_Jd hP 49 cw_49 rfl 2 (by decide) k_2_76 rfl rfl d_Jd_apply_232 ?_
  refine lv_iload hx hb d_Jd_apply_235 (lv_at hl 12 rfl) ?_
  obtain ⟨q7, hq7, h⟩ := o_bd_some h
  refine o_V (st1 := [.int q7]) (w1 := (o_cw ad ca u123_rt u123_Sj u123_T0 u123_T1 u123_Rd Pg Pt u123_Mk u123_Lk u123_Ck Jd Ld Pr)) hE.1 C (c_Tx_nextChild_1 hE l x13 u123_T1 u123_Sj u123_T0 u123_Rd Pg Pt u123_Mk u123_Lk u123_Ck Jd Ld Pr u123_rt hq7) hP (hDD _ _ _ _ _ _ _ _ _ _ _ _ _) hS hl.1 rfl cw_12 k_6_28 k_3_222 k_3_223 k_1_2 k_3_224 hv_Tx_nextChild rfl rfl ⟨(by dsimp only [rm_Jd_apply, rm_Tx_nextChild]; omega), (by dsimp only [rm_Jd_apply, rm_Tx_nextChild]; omega)⟩ rfl (Nat.le_of_ble_eq_true rfl) ⟨Nat.zero_le _, Nat.zero_le _⟩ rfl d_Jd_apply_237 (fun H locs hP hS => ?_)
  refine lv_istore (lv' := [(13, .int q7), (0, .ref (ad 49)), (1, .ref (kd u123_x1)), (2, .int u123_x2), (3, .int u123_x3), (4, .int u123_x4), (5, .int u123_x5), (6, .int x6), (7, .int x7), (8, .int u123_x8), (9, .int u123_x9), (10, .int u123_x10), (11, .long u123_x11), (14, .int u123_x14), (15, .int x15)]) hx hb d_Jd_apply_240 hl (by decide) rfl (fun ls hl => ?_)
  obtain ⟨x15_242, ex15_242⟩ : ∃ y : Int32, y = x15 + (1:Int32) := ⟨_, rfl⟩
  replace h := o_nm_at ex15_242 h
  refine lv_iinc (v := x15_242) (lv' := [(15, .int x15_242), (13, .int q7), (0, .ref (ad 49)), (1, .ref (kd u123_x1)), (2, .int u123_x2), (3, .int u123_x3), (4, .int u123_x4), (5, .int u123_x5), (6, .int x6), (7, .int x7), (8, .int u123_x8), (9, .int u123_x9), (10, .int u123_x10), (11, .long u123_x11), (14, .int u123_x14)]) hx hb d_Jd_apply_242 hl (k := 14) rfl (by rw [ex15_242]; rfl) (by decide) rfl (fun ls hl => ?_)
  refine lv_goto (tgt := 123) hx hb d_Jd_apply_245 (by decide) ?_
  cases h
  exact h0 rfl _ _ _ hP hS (lv_sub hl [2, 3, 4, 5, 6, 7, 8, 9, 10, 11, 12, 13, 1, 14, 0] rfl)
set_option maxHeartbeats 4000000 in
set_option maxRecDepth 100000 in
theorem w_Jd_apply_j210 {E : (Nat → Prop) → State → Heap → Prop} {p : Program} {l : Launch} {e : Env} {s : State} {m : MethodId} {args : Array Value} {below : List Frame} {meth : Method} {c : Code} {D : va_G} {ad kd sd vd xd : Nat → Nat} {ca : Nat → ClassId} {A : Nat → Prop} {Q : State → Prop} (hE : o_EK E kd sd vd xd) (C : o_Cx E p s m args meth c D o_cls (o_tys ca) "SchemaJudge$Judge" b_Jd_apply (some .boolean) 17 cc_Jd_apply A) (hDD : ∀ (rt : Nat) (Sj : SSJ) (T0 : STx) (T1 : STx) (Rd : SRd) (Pg : SPg) (Pt : SPt) (Mk : SMk) (Lk : SLk) (Ck : SCk) (Jd : SJd) (Ld : SLd) (Pr : SPr), va_D A (o_cw ad ca rt Sj T0 T1 Rd Pg Pt Mk Lk Ck Jd Ld Pr)) (d : Nat) (rec : Int32 → Int32 → Int32 → STx → STx → SPg → SPt → SMk → SLd → SPr → SJd → Option (Int32 × SPg × SPt × SLd × SPr × SJd)) (hrec : ∀ (x1 : Int32) (x2 : Int32) (x3 : Int32) (T0 : STx) (T1 : STx) (Pg : SPg) (Pt : SPt) (Mk : SMk) (Ld : SLd) (Pr : SPr) (Jd : SJd) (Sj : SSJ) (Rd : SRd) (Lk : SLk) (Ck : SCk) (rt : Nat) (r : Int32 × SPg × SPt × SLd × SPr × SJd), rec x1 x2 x3 T0 T1 Pg Pt Mk Ld Pr Jd = some r → o_Cn E l D o_cls (o_tys ca) y_Jd_evaluate cc_Jd_evaluate (rm_Jd_evaluate d) [.ref (ad 49), .int x1, .int x2, .int x3] (o_cw ad ca rt Sj T0 T1 Rd Pg Pt Mk Lk Ck Jd Ld Pr) (o_cw ad ca rt Sj T0 T1 Rd r.2.1 r.2.2.1 Mk Lk Ck r.2.2.2.2.2 r.2.2.2.1 r.2.2.2.2.1) (some (.int r.1))) (n : Nat) (u123_x1 : Nat) (gu123_x1 : o_kb u123_x1 = true) (u123_x2 : Int32) (u123_x3 : Int32) (u123_x4 : Int32) (u123_x5 : Int32) (u123_x8 : Int32) (u123_x9 : Int32) (u123_x10 : Int32) (u123_x11 : Int64) (u123_x14 : Int32) (u123_T0 : STx) (u123_T1 : STx) (u123_Mk : SMk) (u123_Sj : SSJ) (u123_Rd : SRd) (u123_Lk : SLk) (u123_Ck : SCk) (u123_rt : Nat) (x6 : Int32) (x13 : Int32) (x15 : Int32) (x16 : Int32) (y0 : Int32) (y1 : Int32) (Pg : SPg) (Pt : SPt) (Ld : SLd) (Pr : SPr) (Jd : SJd) {q : Nat × Int32 × Int32 × Int32 × Int32 × SPg × SPt × SLd × SPr × SJd} (h : m_Jd_apply_j210 n rec u123_x1 u123_x2 u123_x3 u123_x4 u123_x5 x6 u123_x8 u123_x9 u123_x10 u123_x11 x13 u123_x14 x15 x16 y0 y1 u123_T0 u123_T1 Pg Pt u123_Mk Ld Pr Jd = some q) (h0 : q.1 = 0 → o_At p l e (rm_Jd_apply d) s m args below meth c Q o_cls D A 17 123 [] (o_cw ad ca u123_rt u123_Sj u123_T0 u123_T1 u123_Rd q.2.2.2.2.2.1 q.2.2.2.2.2.2.1 u123_Mk u123_Lk u123_Ck q.2.2.2.2.2.2.2.2.2 q.2.2.2.2.2.2.2.1 q.2.2.2.2.2.2.2.2.1) [(0, .ref (ad 49)), (1, .ref (kd u123_x1)), (2, .int u123_x2), (3, .int u123_x3), (4, .int u123_x4), (5, .int u123_x5), (6, .int q.2.1), (7, .int q.2.2.1), (8, .int u123_x8), (9, .int u123_x9), (10, .int u123_x10), (11, .long u123_x11), (13, .int q.2.2.2.1), (14, .int u123_x14), (15, .int q.2.2.2.2.1)]) (h1 : q.1 ≠ 0 → (o_At p l e (rm_Jd_apply d) s m args below meth c Q o_cls D A 17 248 [] (o_cw ad ca u123_rt u123_Sj u123_T0 u123_T1 u123_Rd q.2.2.2.2.2.1 q.2.2.2.2.2.2.1 u123_Mk u123_Lk u123_Ck q.2.2.2.2.2.2.2.2.2 q.2.2.2.2.2.2.2.1 q.2.2.2.2.2.2.2.2.1) [(0, .ref (ad 49)), (1, .ref (kd u123_x1)), (2, .int u123_x2), (3, .int u123_x3), (4, .int u123_x4), (5, .int u123_x5), (6, .int q.2.1), (7, .int q.2.2.1), (8, .int u123_x8), (9, .int u123_x9), (10, .int u123_x10)])) : o_At p l e (rm_Jd_apply d) s m args below meth c Q o_cls D A 17 210 [.int y1, .int y0] (o_cw ad ca u123_rt u123_Sj u123_T0 u123_T1 u123_Rd Pg Pt u123_Mk u123_Lk u123_Ck Jd Ld Pr) [(0, .ref (ad 49)), (1, .ref (kd u123_x1)), (2, .int u123_x2), (3, .int u123_x3), (4, .int u123_x4), (5, .int u123_x5), (6, .int x6), (8, .int u123_x8), (9, .int u123_x9), (10, .int u123_x10), (11, .long u123_x11), (13, .int x13), (14, .int u123_x14), (15, .int x15), (16, .int x16)] := by
  unfold m_Jd_apply_j210 at h
  intro H locs ls hP hS hl
  have C0 := C
  obtain ⟨hx, hb, -, -, -, hown, hts, hK, -, -⟩ := C0
  refine lv_iadd hx hb d_Jd_apply_210 ?_
  refine lv_topi (fun x7_211 ex7_211 => ?_)
  replace h := o_nm_at ex7_211 h
  refine lv_istore (lv' := [(7, .int x7_211), (0, .ref (ad 49)), (1, .ref (kd u123_x1)), (2, .int u123_x2), (3, .int u123_x3), (4, .int u123_x4), (5, .int u123_x5), (6, .int x6), (8, .int u123_x8), (9, .int u123_x9), (10, .int u123_x10), (11, .long u123_x11), (13, .int x13), (14, .int u123_x14), (15, .int x15), (16, .int x16)]) hx hb d_Jd_apply_211 hl (by decide) rfl (fun ls hl => ?_)
  refine lv_aload_n hx hb d_Jd_apply_213 rfl (lv_at hl 1 rfl) ?_
  refine lv_aload_n hx hb d_Jd_apply_214 rfl (lv_at hl 2 rfl) ?_
  refine lv_iload hx hb d_Jd_apply_215 (lv_at hl 15 rfl) ?_
  refine lv_aload_n hx hb d_Jd_apply_217 rfl (lv_at hl 1 rfl) ?_
  refine o_get (v := .ref (ad 12)) C in_Jd hP 49 cw_49 rfl 2 (by decide) k_2_76 rfl rfl d_Jd_apply_218 ?_
  refine lv_iload hx hb d_Jd_apply_221 (lv_at hl 12 rfl) ?_
  obtain ⟨q9, hq9, h⟩ := o_bd_some h
  refine o_V (st1 := [.int q9, .int x16, .ref (kd u123_x1), .ref (ad 49)]) (w1 := (o_cw ad ca u123_rt u123_Sj u123_T0 u123_T1 u123_Rd Pg Pt u123_Mk u123_Lk u123_Ck Jd Ld Pr)) hE.1 C (c_Tx_slot_1 hE l x13 u123_T1 u123_Sj u123_T0 u123_Rd Pg Pt u123_Mk u123_Lk u123_Ck Jd Ld Pr u123_rt hq9) hP (hDD _ _ _ _ _ _ _ _ _ _ _ _ _) hS hl.1 rfl cw_12 k_6_124 k_5_106 k_5_107 k_1_2 k_5_108 hv_Tx_slot rfl rfl ⟨(by dsimp only [rm_Jd_apply, rm_Tx_slot]; omega), (by dsimp only [rm_Jd_apply, rm_Tx_slot]; omega)⟩ rfl (Nat.le_of_ble_eq_true rfl) ⟨Nat.zero_le _, Nat.zero_le _⟩ rfl d_Jd_apply_223 (fun H locs hP hS => ?_)
  refine lv_iload hx hb d_Jd_apply_226 (lv_at hl 5 rfl) ?_
  obtain ⟨q10, hq10, h⟩ := o_bd_some h
  refine o_V (st1 := []) (w1 := (o_cw ad ca u123_rt u123_Sj u123_T0 u123_T1 u123_Rd Pg Pt u123_Mk u123_Lk u123_Ck q10 Ld Pr)) hE.1 C (c_Jd_remember hE l u123_x1 gu123_x1 x16 q9 u123_x4 Jd u123_Sj u123_T0 u123_T1 u123_Rd Pg Pt u123_Mk u123_Lk u123_Ck Ld Pr u123_rt hq10) hP (hDD _ _ _ _ _ _ _ _ _ _ _ _ _) hS hl.1 rfl cw_49 k_6_129 k_6_131 k_s_69 k_1_9 k_6_132 hv_Jd_remember rfl rfl ⟨(by dsimp only [rm_Jd_apply, rm_Jd_remember]; omega), (by dsimp only [rm_Jd_apply, rm_Jd_remember]; omega)⟩ rfl (Nat.le_of_ble_eq_true rfl) ⟨Nat.zero_le _, Nat.zero_le _⟩ rfl d_Jd_apply_228 (fun H locs hP hS => ?_)
  exact w_Jd_apply_j231 hE C hDD d rec hrec n u123_x1 gu123_x1 u123_x2 u123_x3 u123_x4 u123_x5 u123_x8 u123_x9 u123_x10 u123_x11 u123_x14 u123_T0 u123_T1 u123_Mk u123_Sj u123_Rd u123_Lk u123_Ck u123_rt x6 x7_211 x13 x15 Pg Pt Ld Pr q10 h h0 h1 _ _ _ hP hS (lv_sub hl [1, 2, 3, 4, 5, 6, 7, 0, 8, 9, 10, 11, 12, 13, 14] rfl)
set_option maxHeartbeats 4000000 in
set_option maxRecDepth 100000 in
theorem w_Jd_apply_j195 {E : (Nat → Prop) → State → Heap → Prop} {p : Program} {l : Launch} {e : Env} {s : State} {m : MethodId} {args : Array Value} {below : List Frame} {meth : Method} {c : Code} {D : va_G} {ad kd sd vd xd : Nat → Nat} {ca : Nat → ClassId} {A : Nat → Prop} {Q : State → Prop} (hE : o_EK E kd sd vd xd) (C : o_Cx E p s m args meth c D o_cls (o_tys ca) "SchemaJudge$Judge" b_Jd_apply (some .boolean) 17 cc_Jd_apply A) (hDD : ∀ (rt : Nat) (Sj : SSJ) (T0 : STx) (T1 : STx) (Rd : SRd) (Pg : SPg) (Pt : SPt) (Mk : SMk) (Lk : SLk) (Ck : SCk) (Jd : SJd) (Ld : SLd) (Pr : SPr), va_D A (o_cw ad ca rt Sj T0 T1 Rd Pg Pt Mk Lk Ck Jd Ld Pr)) (d : Nat) (rec : Int32 → Int32 → Int32 → STx → STx → SPg → SPt → SMk → SLd → SPr → SJd → Option (Int32 × SPg × SPt × SLd × SPr × SJd)) (hrec : ∀ (x1 : Int32) (x2 : Int32) (x3 : Int32) (T0 : STx) (T1 : STx) (Pg : SPg) (Pt : SPt) (Mk : SMk) (Ld : SLd) (Pr : SPr) (Jd : SJd) (Sj : SSJ) (Rd : SRd) (Lk : SLk) (Ck : SCk) (rt : Nat) (r : Int32 × SPg × SPt × SLd × SPr × SJd), rec x1 x2 x3 T0 T1 Pg Pt Mk Ld Pr Jd = some r → o_Cn E l D o_cls (o_tys ca) y_Jd_evaluate cc_Jd_evaluate (rm_Jd_evaluate d) [.ref (ad 49), .int x1, .int x2, .int x3] (o_cw ad ca rt Sj T0 T1 Rd Pg Pt Mk Lk Ck Jd Ld Pr) (o_cw ad ca rt Sj T0 T1 Rd r.2.1 r.2.2.1 Mk Lk Ck r.2.2.2.2.2 r.2.2.2.1 r.2.2.2.2.1) (some (.int r.1))) (n : Nat) (u123_x1 : Nat) (gu123_x1 : o_kb u123_x1 = true) (u123_x2 : Int32) (u123_x3 : Int32) (u123_x4 : Int32) (u123_x5 : Int32) (u123_x8 : Int32) (u123_x9 : Int32) (u123_x10 : Int32) (u123_x11 : Int64) (u123_x14 : Int32) (u123_T0 : STx) (u123_T1 : STx) (u123_Mk : SMk) (u123_Sj : SSJ) (u123_Rd : SRd) (u123_Lk : SLk) (u123_Ck : SCk) (u123_rt : Nat) (x7 : Int32) (x13 : Int32) (x15 : Int32) (x16 : Int32) (y0 : Int32) (y1 : Int32) (Pg : SPg) (Pt : SPt) (Ld : SLd) (Pr : SPr) (Jd : SJd) {q : Nat × Int32 × Int32 × Int32 × Int32 × SPg × SPt × SLd × SPr × SJd} (h : m_Jd_apply_j195 n rec u123_x1 u123_x2 u123_x3 u123_x4 u123_x5 x7 u123_x8 u123_x9 u123_x10 u123_x11 x13 u123_x14 x15 x16 y0 y1 u123_T0 u123_T1 Pg Pt u123_Mk Ld Pr Jd = some q) (h0 : q.1 = 0 → o_At p l e (rm_Jd_apply d) s m args below meth c Q o_cls D A 17 123 [] (o_cw ad ca u123_rt u123_Sj u123_T0 u123_T1 u123_Rd q.2.2.2.2.2.1 q.2.2.2.2.2.2.1 u123_Mk u123_Lk u123_Ck q.2.2.2.2.2.2.2.2.2 q.2.2.2.2.2.2.2.1 q.2.2.2.2.2.2.2.2.1) [(0, .ref (ad 49)), (1, .ref (kd u123_x1)), (2, .int u123_x2), (3, .int u123_x3), (4, .int u123_x4), (5, .int u123_x5), (6, .int q.2.1), (7, .int q.2.2.1), (8, .int u123_x8), (9, .int u123_x9), (10, .int u123_x10), (11, .long u123_x11), (13, .int q.2.2.2.1), (14, .int u123_x14), (15, .int q.2.2.2.2.1)]) (h1 : q.1 ≠ 0 → (o_At p l e (rm_Jd_apply d) s m args below meth c Q o_cls D A 17 248 [] (o_cw ad ca u123_rt u123_Sj u123_T0 u123_T1 u123_Rd q.2.2.2.2.2.1 q.2.2.2.2.2.2.1 u123_Mk u123_Lk u123_Ck q.2.2.2.2.2.2.2.2.2 q.2.2.2.2.2.2.2.1 q.2.2.2.2.2.2.2.2.1) [(0, .ref (ad 49)), (1, .ref (kd u123_x1)), (2, .int u123_x2), (3, .int u123_x3), (4, .int u123_x4), (5, .int u123_x5), (6, .int q.2.1), (7, .int q.2.2.1), (8, .int u123_x8), (9, .int u123_x9), (10, .int u123_x10)])) : o_At p l e (rm_Jd_apply d) s m args below meth c Q o_cls D A 17 195 [.int y1, .int y0] (o_cw ad ca u123_rt u123_Sj u123_T0 u123_T1 u123_Rd Pg Pt u123_Mk u123_Lk u123_Ck Jd Ld Pr) [(0, .ref (ad 49)), (1, .ref (kd u123_x1)), (2, .int u123_x2), (3, .int u123_x3), (4, .int u123_x4), (5, .int u123_x5), (7, .int x7), (8, .int u123_x8), (9, .int u123_x9), (10, .int u123_x10), (11, .long u123_x11), (13, .int x13), (14, .int u123_x14), (15, .int x15), (16, .int x16)] := by
  unfold m_Jd_apply_j195 at h
  intro H locs ls hP hS hl
  have C0 := C
  obtain ⟨hx, hb, -, -, -, hown, hts, hK, -, -⟩ := C0
  refine lv_iadd hx hb d_Jd_apply_195 ?_
  refine lv_topi (fun x6_196 ex6_196 => ?_)
  replace h := o_nm_at ex6_196 h
  refine lv_istore (lv' := [(6, .int x6_196), (0, .ref (ad 49)), (1, .ref (kd u123_x1)), (2, .int u123_x2), (3, .int u123_x3), (4, .int u123_x4), (5, .int u123_x5), (7, .int x7), (8, .int u123_x8), (9, .int u123_x9), (10, .int u123_x10), (11, .long u123_x11), (13, .int x13), (14, .int u123_x14), (15, .int x15), (16, .int x16)]) hx hb d_Jd_apply_196 hl (by decide) rfl (fun ls hl => ?_)
  refine lv_iload hx hb d_Jd_apply_198 (lv_at hl 7 rfl) ?_
  refine lv_iload hx hb d_Jd_apply_200 (lv_at hl 15 rfl) ?_
  refine lv_if_eq (tgt := 209) hx hb d_Jd_apply_202 (by decide) (fun c11 => ?_) (fun c11 => ?_)
  · replace h := o_tt c11 h
    refine lv_iconst (v := (1:Int32)) hx hb d_Jd_apply_209 (by decide) ?_
    exact w_Jd_apply_j210 hE C hDD d rec hrec n u123_x1 gu123_x1 u123_x2 u123_x3 u123_x4 u123_x5 u123_x8 u123_x9 u123_x10 u123_x11 u123_x14 u123_T0 u123_T1 u123_Mk u123_Sj u123_Rd u123_Lk u123_Ck u123_rt x6_196 x13 x15 x16 x7 (1:Int32) Pg Pt Ld Pr Jd h h0 h1 _ _ _ hP hS (lv_sub hl [1, 2, 3, 4, 5, 6, 0, 8, 9, 10, 11, 12, 13, 14, 15] rfl)
  · replace h := o_ff c11 h
    refine lv_iconst (v := (0:Int32)) hx hb d_Jd_apply_205 (by decide) ?_
    refine lv_goto (tgt := 210) hx hb d_Jd_apply_206 (by decide) ?_
    exact w_Jd_apply_j210 hE C hDD d rec hrec n u123_x1 gu123_x1 u123_x2 u123_x3 u123_x4 u123_x5 u123_x8 u123_x9 u123_x10 u123_x11 u123_x14 u123_T0 u123_T1 u123_Mk u123_Sj u123_Rd u123_Lk u123_Ck u123_rt x6_196 x13 x15 x16 x7 (0:Int32) Pg Pt Ld Pr Jd h h0 h1 _ _ _ hP hS (lv_sub hl [1, 2, 3, 4, 5, 6, 0, 8, 9, 10, 11, 12, 13, 14, 15] rfl)
set_option maxHeartbeats 4000000 in
set_option maxRecDepth 100000 in
theorem w_Jd_apply_j174 {E : (Nat → Prop) → State → Heap → Prop} {p : Program} {l : Launch} {e : Env} {s : State} {m : MethodId} {args : Array Value} {below : List Frame} {meth : Method} {c : Code} {D : va_G} {ad kd sd vd xd : Nat → Nat} {ca : Nat → ClassId} {A : Nat → Prop} {Q : State → Prop} (hE : o_EK E kd sd vd xd) (C : o_Cx E p s m args meth c D o_cls (o_tys ca) "SchemaJudge$Judge" b_Jd_apply (some .boolean) 17 cc_Jd_apply A) (hDD : ∀ (rt : Nat) (Sj : SSJ) (T0 : STx) (T1 : STx) (Rd : SRd) (Pg : SPg) (Pt : SPt) (Mk : SMk) (Lk : SLk) (Ck : SCk) (Jd : SJd) (Ld : SLd) (Pr : SPr), va_D A (o_cw ad ca rt Sj T0 T1 Rd Pg Pt Mk Lk Ck Jd Ld Pr)) (d : Nat) (rec : Int32 → Int32 → Int32 → STx → STx → SPg → SPt → SMk → SLd → SPr → SJd → Option (Int32 × SPg × SPt × SLd × SPr × SJd)) (hrec : ∀ (x1 : Int32) (x2 : Int32) (x3 : Int32) (T0 : STx) (T1 : STx) (Pg : SPg) (Pt : SPt) (Mk : SMk) (Ld : SLd) (Pr : SPr) (Jd : SJd) (Sj : SSJ) (Rd : SRd) (Lk : SLk) (Ck : SCk) (rt : Nat) (r : Int32 × SPg × SPt × SLd × SPr × SJd), rec x1 x2 x3 T0 T1 Pg Pt Mk Ld Pr Jd = some r → o_Cn E l D o_cls (o_tys ca) y_Jd_evaluate cc_Jd_evaluate (rm_Jd_evaluate d) [.ref (ad 49), .int x1, .int x2, .int x3] (o_cw ad ca rt Sj T0 T1 Rd Pg Pt Mk Lk Ck Jd Ld Pr) (o_cw ad ca rt Sj T0 T1 Rd r.2.1 r.2.2.1 Mk Lk Ck r.2.2.2.2.2 r.2.2.2.1 r.2.2.2.2.1) (some (.int r.1))) (n : Nat) (u123_x1 : Nat) (gu123_x1 : o_kb u123_x1 = true) (u123_x2 : Int32) (u123_x3 : Int32) (u123_x4 : Int32) (u123_x5 : Int32) (u123_x8 : Int32) (u123_x9 : Int32) (u123_x10 : Int32) (u123_x11 : Int64) (u123_x14 : Int32) (u123_T0 : STx) (u123_T1 : STx) (u123_Mk : SMk) (u123_Sj : SSJ) (u123_Rd : SRd) (u123_Lk : SLk) (u123_Ck : SCk) (u123_rt : Nat) (x6 : Int32) (x7 : Int32) (x13 : Int32) (x15 : Int32) (y1 : Int32) (y2 : Int32) (Pg : SPg) (Pt : SPt) (Ld : SLd) (Pr : SPr) (Jd : SJd) {q : Nat × Int32 × Int32 × Int32 × Int32 × SPg × SPt × SLd × SPr × SJd} (h : m_Jd_apply_j174 n rec u123_x1 u123_x2 u123_x3 u123_x4 u123_x5 x6 x7 u123_x8 u123_x9 u123_x10 u123_x11 x13 u123_x14 x15 y1 y2 u123_T0 u123_T1 Pg Pt u123_Mk Ld Pr Jd = some q) (h0 : q.1 = 0 → o_At p l e (rm_Jd_apply d) s m args below meth c Q o_cls D A 17 123 [] (o_cw ad ca u123_rt u123_Sj u123_T0 u123_T1 u123_Rd q.2.2.2.2.2.1 q.2.2.2.2.2.2.1 u123_Mk u123_Lk u123_Ck q.2.2.2.2.2.2.2.2.2 q.2.2.2.2.2.2.2.1 q.2.2.2.2.2.2.2.2.1) [(0, .ref (ad 49)), (1, .ref (kd u123_x1)), (2, .int u123_x2), (3, .int u123_x3), (4, .int u123_x4), (5, .int u123_x5), (6, .int q.2.1), (7, .int q.2.2.1), (8, .int u123_x8), (9, .int u123_x9), (10, .int u123_x10), (11, .long u123_x11), (13, .int q.2.2.2.1), (14, .int u123_x14), (15, .int q.2.2.2.2.1)]) (h1 : q.1 ≠ 0 → (o_At p l e (rm_Jd_apply d) s m args below meth c Q o_cls D A 17 248 [] (o_cw ad ca u123_rt u123_Sj u123_T0 u123_T1 u123_Rd q.2.2.2.2.2.1 q.2.2.2.2.2.2.1 u123_Mk u123_Lk u123_Ck q.2.2.2.2.2.2.2.2.2 q.2.2.2.2.2.2.2.1 q.2.2.2.2.2.2.2.2.1) [(0, .ref (ad 49)), (1, .ref (kd u123_x1)), (2, .int u123_x2), (3, .int u123_x3), (4, .int u123_x4), (5, .int u123_x5), (6, .int q.2.1), (7, .int q.2.2.1), (8, .int u123_x8), (9, .int u123_x9), (10, .int u123_x10)])) : o_At p l e (rm_Jd_apply d) s m args below meth c Q o_cls D A 17 174 [.int y2, .int y1, .ref (ad 49)] (o_cw ad ca u123_rt u123_Sj u123_T0 u123_T1 u123_Rd Pg Pt u123_Mk u123_Lk u123_Ck Jd Ld Pr) [(0, .ref (ad 49)), (1, .ref (kd u123_x1)), (2, .int u123_x2), (3, .int u123_x3), (4, .int u123_x4), (5, .int u123_x5), (6, .int x6), (7, .int x7), (8, .int u123_x8), (9, .int u123_x9), (10, .int u123_x10), (11, .long u123_x11), (13, .int x13), (14, .int u123_x14), (15, .int x15)] := by
  unfold m_Jd_apply_j174 at h
  intro H locs ls hP hS hl
  have C0 := C
  obtain ⟨hx, hb, -, -, -, hown, hts, hK, -, -⟩ := C0
  refine lv_iload hx hb d_Jd_apply_174 (lv_at hl 4 rfl) ?_
  refine lv_iconst (v := (1:Int32)) hx hb d_Jd_apply_176 (by decide) ?_
  refine lv_iadd hx hb d_Jd_apply_177 ?_
  obtain ⟨q8, hq8, h⟩ := o_bd_some h
  refine o_V (st1 := [.int q8.1]) (w1 := (o_cw ad ca u123_rt u123_Sj u123_T0 u123_T1 u123_Rd q8.2.1 q8.2.2.1 u123_Mk u123_Lk u123_Ck q8.2.2.2.2.2 q8.2.2.2.1 q8.2.2.2.2.1)) hE.1 C (hrec y1 y2 (u123_x4 + (1:Int32)) u123_T0 u123_T1 Pg Pt u123_Mk Ld Pr Jd u123_Sj u123_Rd u123_Lk u123_Ck u123_rt _ hq8) hP (hDD _ _ _ _ _ _ _ _ _ _ _ _ _) hS hl.1 rfl cw_49 k_6_128 k_6_8 k_6_9 k_1_9 k_6_10 hv_Jd_evaluate rfl rfl ⟨(by dsimp only [rm_Jd_apply, rm_Jd_evaluate]; omega), (by dsimp only [rm_Jd_apply, rm_Jd_evaluate]; omega)⟩ rfl (Nat.le_of_ble_eq_true rfl) ⟨Nat.zero_le _, Nat.zero_le _⟩ rfl d_Jd_apply_178 (fun H locs hP hS => ?_)
  refine lv_istore (lv' := [(16, .int q8.1), (0, .ref (ad 49)), (1, .ref (kd u123_x1)), (2, .int u123_x2), (3, .int u123_x3), (4, .int u123_x4), (5, .int u123_x5), (6, .int x6), (7, .int x7), (8, .int u123_x8), (9, .int u123_x9), (10, .int u123_x10), (11, .long u123_x11), (13, .int x13), (14, .int u123_x14), (15, .int x15)]) hx hb d_Jd_apply_181 hl (by decide) rfl (fun ls hl => ?_)
  refine lv_iload hx hb d_Jd_apply_183 (lv_at hl 7 rfl) ?_
  refine lv_iload hx hb d_Jd_apply_185 (lv_at hl 0 rfl) ?_
  refine lv_if_eq (tgt := 194) hx hb d_Jd_apply_187 (by decide) (fun c10 => ?_) (fun c10 => ?_)
  · replace h := o_tt c10 h
    refine lv_iconst (v := (0:Int32)) hx hb d_Jd_apply_194 (by decide) ?_
    exact w_Jd_apply_j195 hE C hDD d rec hrec n u123_x1 gu123_x1 u123_x2 u123_x3 u123_x4 u123_x5 u123_x8 u123_x9 u123_x10 u123_x11 u123_x14 u123_T0 u123_T1 u123_Mk u123_Sj u123_Rd u123_Lk u123_Ck u123_rt x7 x13 x15 q8.1 x6 (0:Int32) q8.2.1 q8.2.2.1 q8.2.2.2.1 q8.2.2.2.2.1 q8.2.2.2.2.2 h h0 h1 _ _ _ hP hS (lv_sub hl [1, 2, 3, 4, 5, 6, 8, 9, 10, 11, 12, 13, 14, 15, 0] rfl)
  · replace h := o_ff c10 h
    refine lv_iconst (v := (1:Int32)) hx hb d_Jd_apply_190 (by decide) ?_
    refine lv_goto (tgt := 195) hx hb d_Jd_apply_191 (by decide) ?_
    exact w_Jd_apply_j195 hE C hDD d rec hrec n u123_x1 gu123_x1 u123_x2 u123_x3 u123_x4 u123_x5 u123_x8 u123_x9 u123_x10 u123_x11 u123_x14 u123_T0 u123_T1 u123_Mk u123_Sj u123_Rd u123_Lk u123_Ck u123_rt x7 x13 x15 q8.1 x6 (1:Int32) q8.2.1 q8.2.2.1 q8.2.2.2.1 q8.2.2.2.2.1 q8.2.2.2.2.2 h h0 h1 _ _ _ hP hS (lv_sub hl [1, 2, 3, 4, 5, 6, 8, 9, 10, 11, 12, 13, 14, 15, 0] rfl)
set_option maxHeartbeats 4000000 in
set_option maxRecDepth 100000 in
theorem w_Jd_apply_b123 {E : (Nat → Prop) → State → Heap → Prop} {p : Program} {l : Launch} {e : Env} {s : State} {m : MethodId} {args : Array Value} {below : List Frame} {meth : Method} {c : Code} {D : va_G} {ad kd sd vd xd : Nat → Nat} {ca : Nat → ClassId} {A : Nat → Prop} {Q : State → Prop} (hE : o_EK E kd sd vd xd) (C : o_Cx E p s m args meth c D o_cls (o_tys ca) "SchemaJudge$Judge" b_Jd_apply (some .boolean) 17 cc_Jd_apply A) (hDD : ∀ (rt : Nat) (Sj : SSJ) (T0 : STx) (T1 : STx) (Rd : SRd) (Pg : SPg) (Pt : SPt) (Mk : SMk) (Lk : SLk) (Ck : SCk) (Jd : SJd) (Ld : SLd) (Pr : SPr), va_D A (o_cw ad ca rt Sj T0 T1 Rd Pg Pt Mk Lk Ck Jd Ld Pr)) (d : Nat) (rec : Int32 → Int32 → Int32 → STx → STx → SPg → SPt → SMk → SLd → SPr → SJd → Option (Int32 × SPg × SPt × SLd × SPr × SJd)) (hrec : ∀ (x1 : Int32) (x2 : Int32) (x3 : Int32) (T0 : STx) (T1 : STx) (Pg : SPg) (Pt : SPt) (Mk : SMk) (Ld : SLd) (Pr : SPr) (Jd : SJd) (Sj : SSJ) (Rd : SRd) (Lk : SLk) (Ck : SCk) (rt : Nat) (r : Int32 × SPg × SPt × SLd × SPr × SJd), rec x1 x2 x3 T0 T1 Pg Pt Mk Ld Pr Jd = some r → o_Cn E l D o_cls (o_tys ca) y_Jd_evaluate cc_Jd_evaluate (rm_Jd_evaluate d) [.ref (ad 49), .int x1, .int x2, .int x3] (o_cw ad ca rt Sj T0 T1 Rd Pg Pt Mk Lk Ck Jd Ld Pr) (o_cw ad ca rt Sj T0 T1 Rd r.2.1 r.2.2.1 Mk Lk Ck r.2.2.2.2.2 r.2.2.2.1 r.2.2.2.2.1) (some (.int r.1))) (n : Nat) (u123_x1 : Nat) (gu123_x1 : o_kb u123_x1 = true) (u123_x2 : Int32) (u123_x3 : Int32) (u123_x4 : Int32) (u123_x5 : Int32) (u123_x8 : Int32) (u123_x9 : Int32) (u123_x10 : Int32) (u123_x11 : Int64) (u123_x14 : Int32) (u123_T0 : STx) (u123_T1 : STx) (u123_Mk : SMk) (u123_Sj : SSJ) (u123_Rd : SRd) (u123_Lk : SLk) (u123_Ck : SCk) (u123_rt : Nat) (z : Int32 × Int32 × Int32 × Int32 × SPg × SPt × SLd × SPr × SJd) (q : Nat × Int32 × Int32 × Int32 × Int32 × SPg × SPt × SLd × SPr × SJd) (h : m_Jd_apply_b123 n rec u123_x1 u123_x2 u123_x3 u123_x4 u123_x5 u123_x8 u123_x9 u123_x10 u123_x11 u123_x14 u123_T0 u123_T1 u123_Mk z = some q) (h0 : q.1 = 0 → o_At p l e (rm_Jd_apply d) s m args below meth c Q o_cls D A 17 123 [] (o_cw ad ca u123_rt u123_Sj u123_T0 u123_T1 u123_Rd q.2.2.2.2.2.1 q.2.2.2.2.2.2.1 u123_Mk u123_Lk u123_Ck q.2.2.2.2.2.2.2.2.2 q.2.2.2.2.2.2.2.1 q.2.2.2.2.2.2.2.2.1) [(0, .ref (ad 49)), (1, .ref (kd u123_x1)), (2, .int u123_x2), (3, .int u123_x3), (4, .int u123_x4), (5, .int u123_x5), (6, .int q.2.1), (7, .int q.2.2.1), (8, .int u123_x8), (9, .int u123_x9), (10, .int u123_x10), (11, .long u123_x11), (13, .int q.2.2.2.1), (14, .int u123_x14), (15, .int q.2.2.2.2.1)]) (h1 : q.1 ≠ 0 → (o_At p l e (rm_Jd_apply d) s m args below meth c Q o_cls D A 17 248 [] (o_cw ad ca u123_rt u123_Sj u123_T0 u123_T1 u123_Rd q.2.2.2.2.2.1 q.2.2.2.2.2.2.1 u123_Mk u123_Lk u123_Ck q.2.2.2.2.2.2.2.2.2 q.2.2.2.2.2.2.2.1 q.2.2.2.2.2.2.2.2.1) [(0, .ref (ad 49)), (1, .ref (kd u123_x1)), (2, .int u123_x2), (3, .int u123_x3), (4, .int u123_x4), (5, .int u123_x5), (6, .int q.2.1), (7, .int q.2.2.1), (8, .int u123_x8), (9, .int u123_x9), (10, .int u123_x10)])) : o_At p l e (rm_Jd_apply d) s m args below meth c Q o_cls D A 17 123 [] (o_cw ad ca u123_rt u123_Sj u123_T0 u123_T1 u123_Rd z.2.2.2.2.1 z.2.2.2.2.2.1 u123_Mk u123_Lk u123_Ck z.2.2.2.2.2.2.2.2 z.2.2.2.2.2.2.1 z.2.2.2.2.2.2.2.1) [(0, .ref (ad 49)), (1, .ref (kd u123_x1)), (2, .int u123_x2), (3, .int u123_x3), (4, .int u123_x4), (5, .int u123_x5), (6, .int z.1), (7, .int z.2.1), (8, .int u123_x8), (9, .int u123_x9), (10, .int u123_x10), (11, .long u123_x11), (13, .int z.2.2.1), (14, .int u123_x14), (15, .int z.2.2.2.1)] := by
  unfold m_Jd_apply_b123 at h
  intro H locs ls hP hS hl
  have C0 := C
  obtain ⟨hx, hb, -, -, -, hown, hts, hK, -, -⟩ := C0
  refine lv_iload hx hb d_Jd_apply_123 (lv_at hl 14 rfl) ?_
  refine lv_iload hx hb d_Jd_apply_125 (lv_at hl 13 rfl) ?_
  refine lv_icmp_ge (tgt := 248) hx hb d_Jd_apply_127 (by decide) (fun c5 => ?_) (fun c5 => ?_)
  · replace h := o_tt c5 h
    cases h
    exact h1 (Nat.succ_ne_zero 0) _ _ _ hP hS (lv_sub hl [0, 1, 2, 3, 4, 5, 6, 7, 8, 9, 10] rfl)
  · replace h := o_ff c5 h
    refine lv_iload hx hb d_Jd_apply_130 (lv_at hl 12 rfl) ?_
    refine lv_iconst (v := (-1:Int32)) hx hb d_Jd_apply_132 (by decide) ?_
    refine lv_icmp_eq (tgt := 248) hx hb d_Jd_apply_133 (by decide) (fun c6 => ?_) (fun c6 => ?_)
    · replace h := o_tt c6 h
      cases h
      exact h1 (Nat.succ_ne_zero 0) _ _ _ hP hS (lv_sub hl [0, 1, 2, 3, 4, 5, 6, 7, 8, 9, 10] rfl)
    · replace h := o_ff c6 h
      refine lv_aload_n hx hb d_Jd_apply_136 rfl (lv_at hl 0 rfl) ?_
      refine o_get (v := .int (Jd_over z.2.2.2.2.2.2.2.2)) C in_Jd hP 49 cw_49 rfl 9 (by decide) k_2_83 rfl rfl d_Jd_apply_137 ?_
      refine lv_if_ne (tgt := 248) hx hb d_Jd_apply_140 (by decide) (fun c7 => ?_) (fun c7 => ?_)
      · replace h := o_ff c7 h
        cases h
        exact h1 (Nat.succ_ne_zero 0) _ _ _ hP hS (lv_sub hl [0, 1, 2, 3, 4, 5, 6, 7, 8, 9, 10] rfl)
      · replace h := o_tt c7 h
        refine lv_lload hx hb d_Jd_apply_143 (lv_at hl 11 rfl) ?_
        refine lv_iload hx hb d_Jd_apply_145 (lv_at hl 14 rfl) ?_
        refine lv_lshr hx hb d_Jd_apply_147 rfl ?_
        refine lv_lconst (v := (1:Int64)) hx hb d_Jd_apply_148 (by decide) ?_
        refine lv_land hx hb d_Jd_apply_149 ?_
        refine lv_lconst (v := (0:Int64)) hx hb d_Jd_apply_150 (by decide) ?_
        refine W.lcmp hx hb d_Jd_apply_151 ?_
        refine lv_if_ne (tgt := 231) hx hb d_Jd_apply_152 (by decide) (fun c8 => ?_) (fun c8 => ?_)
        · replace h := o_ff c8 h
          exact w_Jd_apply_j231 hE C hDD d rec hrec n u123_x1 gu123_x1 u123_x2 u123_x3 u123_x4 u123_x5 u123_x8 u123_x9 u123_x10 u123_x11 u123_x14 u123_T0 u123_T1 u123_Mk u123_Sj u123_Rd u123_Lk u123_Ck u123_rt z.1 z.2.1 z.2.2.1 z.2.2.2.1 z.2.2.2.2.1 z.2.2.2.2.2.1 z.2.2.2.2.2.2.1 z.2.2.2.2.2.2.2.1 z.2.2.2.2.2.2.2.2 h h0 h1 _ _ _ hP hS (lv_sub hl [0, 1, 2, 3, 4, 5, 6, 7, 8, 9, 10, 11, 12, 13, 14] rfl)
        · replace h := o_tt c8 h
          refine lv_aload_n hx hb d_Jd_apply_155 rfl (lv_at hl 0 rfl) ?_
          refine lv_iload hx hb d_Jd_apply_156 (lv_at hl 9 rfl) ?_
          refine lv_aload_n hx hb d_Jd_apply_158 rfl (lv_at hl 1 rfl) ?_
          refine va_gets (v := .ref (kd 8)) hx hb ((hE.2.2.1 _ _ _ C.2.2.2.2.2.2.2.2.2).1 8 (by decide)).1 hS hown (hts _ k_6_126) (fun _ h9 => h9) d_Jd_apply_159 ?_
          refine lv_acmp_ne (rx := some (kd u123_x1)) (ry := some (kd 8)) (tgt := 172) hx hb d_Jd_apply_162 (by decide) (fun c9 => ?_) (fun c9 => ?_)
          · replace h := o_ff (o_kn_ c9) h
            refine lv_iload hx hb d_Jd_apply_172 (lv_at hl 12 rfl) ?_
            exact w_Jd_apply_j174 hE C hDD d rec hrec n u123_x1 gu123_x1 u123_x2 u123_x3 u123_x4 u123_x5 u123_x8 u123_x9 u123_x10 u123_x11 u123_x14 u123_T0 u123_T1 u123_Mk u123_Sj u123_Rd u123_Lk u123_Ck u123_rt z.1 z.2.1 z.2.2.1 z.2.2.2.1 u123_x9 z.2.2.1 z.2.2.2.2.1 z.2.2.2.2.2.1 z.2.2.2.2.2.2.1 z.2.2.2.2.2.2.2.1 z.2.2.2.2.2.2.2.2 h h0 h1 _ _ _ hP hS (lv_sub hl [0, 1, 2, 3, 4, 5, 6, 7, 8, 9, 10, 11, 12, 13, 14] rfl)
          · replace h := o_tt (o_ki hE C gu123_x1 rfl c9) h
            refine lv_iload hx hb d_Jd_apply_165 (lv_at hl 12 rfl) ?_
            refine lv_iconst (v := (1:Int32)) hx hb d_Jd_apply_167 (by decide) ?_
            refine lv_isub hx hb d_Jd_apply_168 ?_
            refine lv_goto (tgt := 174) hx hb d_Jd_apply_169 (by decide) ?_
            exact w_Jd_apply_j174 hE C hDD d rec hrec n u123_x1 gu123_x1 u123_x2 u123_x3 u123_x4 u123_x5 u123_x8 u123_x9 u123_x10 u123_x11 u123_x14 u123_T0 u123_T1 u123_Mk u123_Sj u123_Rd u123_Lk u123_Ck u123_rt z.1 z.2.1 z.2.2.1 z.2.2.2.1 u123_x9 (z.2.2.1 - (1:Int32)) z.2.2.2.2.1 z.2.2.2.2.2.1 z.2.2.2.2.2.2.1 z.2.2.2.2.2.2.2.1 z.2.2.2.2.2.2.2.2 h h0 h1 _ _ _ hP hS (lv_sub hl [0, 1, 2, 3, 4, 5, 6, 7, 8, 9, 10, 11, 12, 13, 14] rfl)
set_option maxHeartbeats 4000000 in
set_option maxRecDepth 100000 in
theorem w_Jd_apply_j248 {E : (Nat → Prop) → State → Heap → Prop} {p : Program} {l : Launch} {e : Env} {s : State} {m : MethodId} {args : Array Value} {below : List Frame} {meth : Method} {c : Code} {D : va_G} {ad kd sd vd xd : Nat → Nat} {ca : Nat → ClassId} {A : Nat → Prop} {Q : State → Prop} (hE : o_EK E kd sd vd xd) (C : o_Cx E p s m args meth c D o_cls (o_tys ca) "SchemaJudge$Judge" b_Jd_apply (some .boolean) 17 cc_Jd_apply A) (hDD : ∀ (rt : Nat) (Sj : SSJ) (T0 : STx) (T1 : STx) (Rd : SRd) (Pg : SPg) (Pt : SPt) (Mk : SMk) (Lk : SLk) (Ck : SCk) (Jd : SJd) (Ld : SLd) (Pr : SPr), va_D A (o_cw ad ca rt Sj T0 T1 Rd Pg Pt Mk Lk Ck Jd Ld Pr)) (d : Nat) (rec : Int32 → Int32 → Int32 → STx → STx → SPg → SPt → SMk → SLd → SPr → SJd → Option (Int32 × SPg × SPt × SLd × SPr × SJd)) (hrec : ∀ (x1 : Int32) (x2 : Int32) (x3 : Int32) (T0 : STx) (T1 : STx) (Pg : SPg) (Pt : SPt) (Mk : SMk) (Ld : SLd) (Pr : SPr) (Jd : SJd) (Sj : SSJ) (Rd : SRd) (Lk : SLk) (Ck : SCk) (rt : Nat) (r : Int32 × SPg × SPt × SLd × SPr × SJd), rec x1 x2 x3 T0 T1 Pg Pt Mk Ld Pr Jd = some r → o_Cn E l D o_cls (o_tys ca) y_Jd_evaluate cc_Jd_evaluate (rm_Jd_evaluate d) [.ref (ad 49), .int x1, .int x2, .int x3] (o_cw ad ca rt Sj T0 T1 Rd Pg Pt Mk Lk Ck Jd Ld Pr) (o_cw ad ca rt Sj T0 T1 Rd r.2.1 r.2.2.1 Mk Lk Ck r.2.2.2.2.2 r.2.2.2.1 r.2.2.2.2.1) (some (.int r.1))) (n : Nat) (u61_x1 : Nat) (gu61_x1 : o_kb u61_x1 = true) (u61_x2 : Int32) (u61_x3 : Int32) (u61_x4 : Int32) (u61_x5 : Int32) (u61_x8 : Int32) (u61_T0 : STx) (u61_T1 : STx) (u61_Mk : SMk) (u61_Sj : SSJ) (u61_Rd : SRd) (u61_Lk : SLk) (u61_Ck : SCk) (u61_rt : Nat) (x6 : Int32) (x7 : Int32) (x9 : Int32) (x10 : Int32) (Pg : SPg) (Pt : SPt) (Ld : SLd) (Pr : SPr) (Jd : SJd) {q : Nat × Int32 × Int32 × Int32 × Int32 × SPg × SPt × SLd × SPr × SJd} (h : m_Jd_apply_j248 n rec u61_x1 u61_x2 u61_x3 u61_x4 u61_x5 x6 x7 u61_x8 x9 x10 u61_T0 u61_T1 Pg Pt u61_Mk Ld Pr Jd = some q) (h0 : q.1 = 0 → o_At p l e (rm_Jd_apply d) s m args below meth c Q o_cls D A 17 61 [] (o_cw ad ca u61_rt u61_Sj u61_T0 u61_T1 u61_Rd q.2.2.2.2.2.1 q.2.2.2.2.2.2.1 u61_Mk u61_Lk u61_Ck q.2.2.2.2.2.2.2.2.2 q.2.2.2.2.2.2.2.1 q.2.2.2.2.2.2.2.2.1) [(0, .ref (ad 49)), (1, .ref (kd u61_x1)), (2, .int u61_x2), (3, .int u61_x3), (4, .int u61_x4), (5, .int u61_x5), (6, .int q.2.1), (7, .int q.2.2.1), (8, .int u61_x8), (9, .int q.2.2.2.1), (10, .int q.2.2.2.2.1)]) (h1 : q.1 ≠ 0 → (o_At p l e (rm_Jd_apply d) s m args below meth c Q o_cls D A 17 265 [] (o_cw ad ca u61_rt u61_Sj u61_T0 u61_T1 u61_Rd q.2.2.2.2.2.1 q.2.2.2.2.2.2.1 u61_Mk u61_Lk u61_Ck q.2.2.2.2.2.2.2.2.2 q.2.2.2.2.2.2.2.1 q.2.2.2.2.2.2.2.2.1) [(0, .ref (ad 49)), (1, .ref (kd u61_x1)), (2, .int u61_x2), (5, .int u61_x5), (6, .int q.2.1), (7, .int q.2.2.1)])) : o_At p l e (rm_Jd_apply d) s m args below meth c Q o_cls D A 17 248 [] (o_cw ad ca u61_rt u61_Sj u61_T0 u61_T1 u61_Rd Pg Pt u61_Mk u61_Lk u61_Ck Jd Ld Pr) [(0, .ref (ad 49)), (1, .ref (kd u61_x1)), (2, .int u61_x2), (3, .int u61_x3), (4, .int u61_x4), (5, .int u61_x5), (6, .int x6), (7, .int x7), (8, .int u61_x8), (9, .int x9), (10, .int x10)] := by
  unfold m_Jd_apply_j248 at h
  intro H locs ls hP hS hl
  have C0 := C
  obtain ⟨hx, hb, -, -, -, hown, hts, hK, -, -⟩ := C0
  refine lv_aload_n hx hb d_Jd_apply_248 rfl (lv_at hl 0 rfl) ?_
  refine o_get (v := .ref (ad 1)) C in_Jd hP 49 cw_49 rfl 0 (by decide) k_2_74 rfl rfl d_Jd_apply_249 ?_
  refine lv_iload hx hb d_Jd_apply_252 (lv_at hl 9 rfl) ?_
  obtain ⟨q12, hq12, h⟩ := o_bd_some h
  refine o_V (st1 := [.int q12]) (w1 := (o_cw ad ca u61_rt u61_Sj u61_T0 u61_T1 u61_Rd Pg Pt u61_Mk u61_Lk u61_Ck Jd Ld Pr)) hE.1 C (c_Tx_nextChild_0 hE l x9 u61_T0 u61_Sj u61_T1 u61_Rd Pg Pt u61_Mk u61_Lk u61_Ck Jd Ld Pr u61_rt hq12) hP (hDD _ _ _ _ _ _ _ _ _ _ _ _ _) hS hl.1 rfl cw_1 k_6_28 k_3_222 k_3_223 k_1_2 k_3_224 hv_Tx_nextChild rfl rfl ⟨(by dsimp only [rm_Jd_apply, rm_Tx_nextChild]; omega), (by dsimp only [rm_Jd_apply, rm_Tx_nextChild]; omega)⟩ rfl (Nat.le_of_ble_eq_true rfl) ⟨Nat.zero_le _, Nat.zero_le _⟩ rfl d_Jd_apply_254 (fun H locs hP hS => ?_)
  refine lv_istore (lv' := [(9, .int q12), (0, .ref (ad 49)), (1, .ref (kd u61_x1)), (2, .int u61_x2), (3, .int u61_x3), (4, .int u61_x4), (5, .int u61_x5), (6, .int x6), (7, .int x7), (8, .int u61_x8), (10, .int x10)]) hx hb d_Jd_apply_257 hl (by decide) rfl (fun ls hl => ?_)
  obtain ⟨x10_259, ex10_259⟩ : ∃ y : Int32, y = x10 + (1:Int32) := ⟨_, rfl⟩
  replace h := o_nm_at ex10_259 h
  refine lv_iinc (v := x10_259) (lv' := [(10, .int x10_259), (9, .int q12), (0, .ref (ad 49)), (1, .ref (kd u61_x1)), (2, .int u61_x2), (3, .int u61_x3), (4, .int u61_x4), (5, .int u61_x5), (6, .int x6), (7, .int x7), (8, .int u61_x8)]) hx hb d_Jd_apply_259 hl (k := 10) rfl (by rw [ex10_259]; rfl) (by decide) rfl (fun ls hl => ?_)
  refine lv_goto (tgt := 61) hx hb d_Jd_apply_262 (by decide) ?_
  cases h
  exact h0 rfl _ _ _ hP hS (lv_sub hl [2, 3, 4, 5, 6, 7, 8, 9, 10, 1, 0] rfl)
set_option maxHeartbeats 4000000 in
set_option maxRecDepth 100000 in
theorem w_Jd_apply_b61 {E : (Nat → Prop) → State → Heap → Prop} {p : Program} {l : Launch} {e : Env} {s : State} {m : MethodId} {args : Array Value} {below : List Frame} {meth : Method} {c : Code} {D : va_G} {ad kd sd vd xd : Nat → Nat} {ca : Nat → ClassId} {A : Nat → Prop} {Q : State → Prop} (hE : o_EK E kd sd vd xd) (C : o_Cx E p s m args meth c D o_cls (o_tys ca) "SchemaJudge$Judge" b_Jd_apply (some .boolean) 17 cc_Jd_apply A) (hDD : ∀ (rt : Nat) (Sj : SSJ) (T0 : STx) (T1 : STx) (Rd : SRd) (Pg : SPg) (Pt : SPt) (Mk : SMk) (Lk : SLk) (Ck : SCk) (Jd : SJd) (Ld : SLd) (Pr : SPr), va_D A (o_cw ad ca rt Sj T0 T1 Rd Pg Pt Mk Lk Ck Jd Ld Pr)) (d : Nat) (rec : Int32 → Int32 → Int32 → STx → STx → SPg → SPt → SMk → SLd → SPr → SJd → Option (Int32 × SPg × SPt × SLd × SPr × SJd)) (hrec : ∀ (x1 : Int32) (x2 : Int32) (x3 : Int32) (T0 : STx) (T1 : STx) (Pg : SPg) (Pt : SPt) (Mk : SMk) (Ld : SLd) (Pr : SPr) (Jd : SJd) (Sj : SSJ) (Rd : SRd) (Lk : SLk) (Ck : SCk) (rt : Nat) (r : Int32 × SPg × SPt × SLd × SPr × SJd), rec x1 x2 x3 T0 T1 Pg Pt Mk Ld Pr Jd = some r → o_Cn E l D o_cls (o_tys ca) y_Jd_evaluate cc_Jd_evaluate (rm_Jd_evaluate d) [.ref (ad 49), .int x1, .int x2, .int x3] (o_cw ad ca rt Sj T0 T1 Rd Pg Pt Mk Lk Ck Jd Ld Pr) (o_cw ad ca rt Sj T0 T1 Rd r.2.1 r.2.2.1 Mk Lk Ck r.2.2.2.2.2 r.2.2.2.1 r.2.2.2.2.1) (some (.int r.1))) (n : Nat) (u61_x1 : Nat) (gu61_x1 : o_kb u61_x1 = true) (u61_x2 : Int32) (u61_x3 : Int32) (u61_x4 : Int32) (u61_x5 : Int32) (u61_x8 : Int32) (u61_T0 : STx) (u61_T1 : STx) (u61_Mk : SMk) (u61_Sj : SSJ) (u61_Rd : SRd) (u61_Lk : SLk) (u61_Ck : SCk) (u61_rt : Nat) (z : Int32 × Int32 × Int32 × Int32 × SPg × SPt × SLd × SPr × SJd) (q : Nat × Int32 × Int32 × Int32 × Int32 × SPg × SPt × SLd × SPr × SJd) (h : m_Jd_apply_b61 n rec u61_x1 u61_x2 u61_x3 u61_x4 u61_x5 u61_x8 u61_T0 u61_T1 u61_Mk z = some q) (h0 : q.1 = 0 → o_At p l e (rm_Jd_apply d) s m args below meth c Q o_cls D A 17 61 [] (o_cw ad ca u61_rt u61_Sj u61_T0 u61_T1 u61_Rd q.2.2.2.2.2.1 q.2.2.2.2.2.2.1 u61_Mk u61_Lk u61_Ck q.2.2.2.2.2.2.2.2.2 q.2.2.2.2.2.2.2.1 q.2.2.2.2.2.2.2.2.1) [(0, .ref (ad 49)), (1, .ref (kd u61_x1)), (2, .int u61_x2), (3, .int u61_x3), (4, .int u61_x4), (5, .int u61_x5), (6, .int q.2.1), (7, .int q.2.2.1), (8, .int u61_x8), (9, .int q.2.2.2.1), (10, .int q.2.2.2.2.1)]) (h1 : q.1 ≠ 0 → (o_At p l e (rm_Jd_apply d) s m args below meth c Q o_cls D A 17 265 [] (o_cw ad ca u61_rt u61_Sj u61_T0 u61_T1 u61_Rd q.2.2.2.2.2.1 q.2.2.2.2.2.2.1 u61_Mk u61_Lk u61_Ck q.2.2.2.2.2.2.2.2.2 q.2.2.2.2.2.2.2.1 q.2.2.2.2.2.2.2.2.1) [(0, .ref (ad 49)), (1, .ref (kd u61_x1)), (2, .int u61_x2), (5, .int u61_x5), (6, .int q.2.1), (7, .int q.2.2.1)])) : o_At p l e (rm_Jd_apply d) s m args below meth c Q o_cls D A 17 61 [] (o_cw ad ca u61_rt u61_Sj u61_T0 u61_T1 u61_Rd z.2.2.2.2.1 z.2.2.2.2.2.1 u61_Mk u61_Lk u61_Ck z.2.2.2.2.2.2.2.2 z.2.2.2.2.2.2.1 z.2.2.2.2.2.2.2.1) [(0, .ref (ad 49)), (1, .ref (kd u61_x1)), (2, .int u61_x2), (3, .int u61_x3), (4, .int u61_x4), (5, .int u61_x5), (6, .int z.1), (7, .int z.2.1), (8, .int u61_x8), (9, .int z.2.2.1), (10, .int z.2.2.2.1)] := by
  unfold m_Jd_apply_b61 at h
  intro H locs ls hP hS hl
  have C0 := C
  obtain ⟨hx, hb, -, -, -, hown, hts, hK, -, -⟩ := C0
  refine lv_iload hx hb d_Jd_apply_61 (lv_at hl 10 rfl) ?_
  refine lv_iload hx hb d_Jd_apply_63 (lv_at hl 8 rfl) ?_
  refine lv_icmp_ge (tgt := 265) hx hb d_Jd_apply_65 (by decide) (fun c2 => ?_) (fun c2 => ?_)
  · replace h := o_tt c2 h
    cases h
    exact h1 (Nat.succ_ne_zero 0) _ _ _ hP hS (lv_sub hl [0, 1, 2, 5, 6, 7] rfl)
  · replace h := o_ff c2 h
    refine lv_aload_n hx hb d_Jd_apply_68 rfl (lv_at hl 0 rfl) ?_
    refine o_get (v := .int (Jd_over z.2.2.2.2.2.2.2.2)) C in_Jd hP 49 cw_49 rfl 9 (by decide) k_2_83 rfl rfl d_Jd_apply_69 ?_
    refine lv_if_ne (tgt := 265) hx hb d_Jd_apply_72 (by decide) (fun c3 => ?_) (fun c3 => ?_)
    · replace h := o_ff c3 h
      cases h
      exact h1 (Nat.succ_ne_zero 0) _ _ _ hP hS (lv_sub hl [0, 1, 2, 5, 6, 7] rfl)
    · replace h := o_tt c3 h
      refine lv_aload_n hx hb d_Jd_apply_75 rfl (lv_at hl 0 rfl) ?_
      refine lv_aload_n hx hb d_Jd_apply_76 rfl (lv_at hl 1 rfl) ?_
      refine lv_iload_n hx hb d_Jd_apply_77 rfl (lv_at hl 2 rfl) ?_
      refine lv_iload hx hb d_Jd_apply_78 (lv_at hl 9 rfl) ?_
      refine lv_iload_n hx hb d_Jd_apply_80 rfl (lv_at hl 3 rfl) ?_
      refine lv_iload hx hb d_Jd_apply_81 (lv_at hl 4 rfl) ?_
      obtain ⟨q5, hq5, h⟩ := o_bd_some h
      refine o_V (st1 := [.long q5.1]) (w1 := (o_cw ad ca u61_rt u61_Sj u61_T0 u61_T1 u61_Rd q5.2.1 q5.2.2 u61_Mk u61_Lk u61_Ck z.2.2.2.2.2.2.2.2 z.2.2.2.2.2.2.1 z.2.2.2.2.2.2.2.1)) hE.1 C (c_Jd_skipped hE l n u61_x1 gu61_x1 u61_x2 z.2.2.1 u61_x3 u61_x4 u61_T0 u61_T1 z.2.2.2.2.1 z.2.2.2.2.2.1 u61_Mk z.2.2.2.2.2.2.2.2 u61_Sj u61_Rd u61_Lk u61_Ck z.2.2.2.2.2.2.1 z.2.2.2.2.2.2.2.1 u61_rt hq5) hP (hDD _ _ _ _ _ _ _ _ _ _ _ _ _) hS hl.1 rfl cw_49 k_6_58 k_6_60 k_s_61 k_1_9 k_6_61 hv_Jd_skipped rfl rfl ⟨(by dsimp only [rm_Jd_apply, rm_Jd_skipped]; omega), (by dsimp only [rm_Jd_apply, rm_Jd_skipped]; omega)⟩ rfl (Nat.le_of_ble_eq_true rfl) ⟨Nat.zero_le _, Nat.zero_le _⟩ rfl d_Jd_apply_83 (fun H locs hP hS => ?_)
      refine lv_lstore (lv' := [(11, .long q5.1), (0, .ref (ad 49)), (1, .ref (kd u61_x1)), (2, .int u61_x2), (3, .int u61_x3), (4, .int u61_x4), (5, .int u61_x5), (6, .int z.1), (7, .int z.2.1), (8, .int u61_x8), (9, .int z.2.2.1), (10, .int z.2.2.2.1)]) hx hb d_Jd_apply_86 hl (by decide) rfl (fun ls hl => ?_)
      refine lv_aload_n hx hb d_Jd_apply_88 rfl (lv_at hl 1 rfl) ?_
      refine lv_aload_n hx hb d_Jd_apply_89 rfl (lv_at hl 2 rfl) ?_
      refine lv_iload hx hb d_Jd_apply_90 (lv_at hl 10 rfl) ?_
      refine lv_iload_n hx hb d_Jd_apply_92 rfl (lv_at hl 4 rfl) ?_
      obtain ⟨q6, hq6, h⟩ := o_bd_some h
      refine o_V (st1 := [.int q6]) (w1 := (o_cw ad ca u61_rt u61_Sj u61_T0 u61_T1 u61_Rd q5.2.1 q5.2.2 u61_Mk u61_Lk u61_Ck z.2.2.2.2.2.2.2.2 z.2.2.2.2.2.2.1 z.2.2.2.2.2.2.2.1)) hE.1 C (c_Jd_firstTarget hE l n u61_x1 gu61_x1 z.2.2.1 u61_x3 u61_T0 u61_T1 u61_Sj u61_Rd q5.2.1 q5.2.2 u61_Mk u61_Lk u61_Ck z.2.2.2.2.2.2.2.2 z.2.2.2.2.2.2.1 z.2.2.2.2.2.2.2.1 u61_rt hq6) hP (hDD _ _ _ _ _ _ _ _ _ _ _ _ _) hS hl.1 rfl cw_49 k_6_120 k_6_122 k_s_68 k_1_9 k_6_123 hv_Jd_firstTarget rfl rfl ⟨(by dsimp only [rm_Jd_apply, rm_Jd_firstTarget]; omega), (by dsimp only [rm_Jd_apply, rm_Jd_firstTarget]; omega)⟩ rfl (Nat.le_of_ble_eq_true rfl) ⟨Nat.zero_le _, Nat.zero_le _⟩ rfl d_Jd_apply_93 (fun H locs hP hS => ?_)
      refine lv_istore (lv' := [(13, .int q6), (11, .long q5.1), (0, .ref (ad 49)), (1, .ref (kd u61_x1)), (2, .int u61_x2), (3, .int u61_x3), (4, .int u61_x4), (5, .int u61_x5), (6, .int z.1), (7, .int z.2.1), (8, .int u61_x8), (9, .int z.2.2.1), (10, .int z.2.2.2.1)]) hx hb d_Jd_apply_96 hl (by decide) rfl (fun ls hl => ?_)
      refine lv_aload_n hx hb d_Jd_apply_98 rfl (lv_at hl 3 rfl) ?_
      refine o_gkN (fi := 3) (v := (kw_reach u61_x1)) hE C gu61_x1 hS rfl rfl nw_25 d_Jd_apply_99 ?_
      refine lv_iconst (v := (4:Int32)) hx hb d_Jd_apply_102 (by decide) ?_
      refine lv_icmp_ne (tgt := 117) hx hb d_Jd_apply_103 (by decide) (fun c4 => ?_) (fun c4 => ?_)
      · replace h := o_ff c4 h
        refine lv_iconst (v := (1:Int32)) hx hb d_Jd_apply_117 (by decide) ?_
        refine lv_istore (lv' := [(14, .int (1:Int32)), (13, .int q6), (11, .long q5.1), (0, .ref (ad 49)), (1, .ref (kd u61_x1)), (2, .int u61_x2), (3, .int u61_x3), (4, .int u61_x4), (5, .int u61_x5), (6, .int z.1), (7, .int z.2.1), (8, .int u61_x8), (9, .int z.2.2.1), (10, .int z.2.2.2.1)]) hx hb d_Jd_apply_118 hl (by decide) rfl (fun ls hl => ?_)
        refine lv_iconst (v := (0:Int32)) hx hb d_Jd_apply_120 (by decide) ?_
        refine lv_istore (lv' := [(15, .int (0:Int32)), (14, .int (1:Int32)), (13, .int q6), (11, .long q5.1), (0, .ref (ad 49)), (1, .ref (kd u61_x1)), (2, .int u61_x2), (3, .int u61_x3), (4, .int u61_x4), (5, .int u61_x5), (6, .int z.1), (7, .int z.2.1), (8, .int u61_x8), (9, .int z.2.2.1), (10, .int z.2.2.2.1)]) hx hb d_Jd_apply_121 hl (by decide) rfl (fun ls hl => ?_)
        obtain ⟨q11, hq11, h⟩ := o_bd_some h
        refine o_sim2 (AH := fun zz => o_At p l e (rm_Jd_apply d) s m args below meth c _ o_cls D A 17 123 [] (o_cw ad ca u61_rt u61_Sj u61_T0 u61_T1 u61_Rd zz.2.2.2.2.1 zz.2.2.2.2.2.1 u61_Mk u61_Lk u61_Ck zz.2.2.2.2.2.2.2.2 zz.2.2.2.2.2.2.1 zz.2.2.2.2.2.2.2.1) [(0, .ref (ad 49)), (1, .ref (kd u61_x1)), (2, .int u61_x2), (3, .int u61_x3), (4, .int u61_x4), (5, .int u61_x5), (6, .int zz.1), (7, .int zz.2.1), (8, .int u61_x8), (9, .int z.2.2.1), (10, .int z.2.2.2.1), (11, .long q5.1), (13, .int zz.2.2.1), (14, .int (1:Int32)), (15, .int zz.2.2.2.1)]) (AX := fun qq => o_At p l e (rm_Jd_apply d) s m args below meth c _ o_cls D A 17 248 [] (o_cw ad ca u61_rt u61_Sj u61_T0 u61_T1 u61_Rd qq.2.2.2.2.2.1 qq.2.2.2.2.2.2.1 u61_Mk u61_Lk u61_Ck qq.2.2.2.2.2.2.2.2.2 qq.2.2.2.2.2.2.2.1 qq.2.2.2.2.2.2.2.2.1) [(0, .ref (ad 49)), (1, .ref (kd u61_x1)), (2, .int u61_x2), (3, .int u61_x3), (4, .int u61_x4), (5, .int u61_x5), (6, .int qq.2.1), (7, .int qq.2.2.1), (8, .int u61_x8), (9, .int z.2.2.1), (10, .int z.2.2.2.1)]) (fun zz qq h h0 h1 => w_Jd_apply_b123 hE C hDD d rec hrec n u61_x1 gu61_x1 u61_x2 u61_x3 u61_x4 u61_x5 u61_x8 z.2.2.1 z.2.2.2.1 q5.1 (1:Int32) u61_T0 u61_T1 u61_Mk u61_Sj u61_Rd u61_Lk u61_Ck u61_rt zz qq h h0 h1) n _ q11 hq11 ?_ _ _ _ hP hS (lv_sub hl [4, 5, 6, 7, 8, 9, 10, 11, 12, 13, 14, 3, 2, 1, 0] rfl)
        intro H locs ls hP hS hl
        exact w_Jd_apply_j248 hE C hDD d rec hrec n u61_x1 gu61_x1 u61_x2 u61_x3 u61_x4 u61_x5 u61_x8 u61_T0 u61_T1 u61_Mk u61_Sj u61_Rd u61_Lk u61_Ck u61_rt q11.2.1 q11.2.2.1 z.2.2.1 z.2.2.2.1 q11.2.2.2.2.2.1 q11.2.2.2.2.2.2.1 q11.2.2.2.2.2.2.2.1 q11.2.2.2.2.2.2.2.2.1 q11.2.2.2.2.2.2.2.2.2 h h0 h1 _ _ _ hP hS (lv_sub hl [0, 1, 2, 3, 4, 5, 6, 7, 8, 9, 10] rfl)
      · replace h := o_tt c4 h
        refine lv_aload_n hx hb d_Jd_apply_106 rfl (lv_at hl 2 rfl) ?_
        refine o_get (v := .ref (ad 12)) C in_Jd hP 49 cw_49 rfl 2 (by decide) k_2_76 rfl rfl d_Jd_apply_107 ?_
        refine lv_iload_n hx hb d_Jd_apply_110 rfl (lv_at hl 5 rfl) ?_
        obtain ⟨q13, hq13, h⟩ := o_bd_some h
        refine o_V (st1 := [.int q13]) (w1 := (o_cw ad ca u61_rt u61_Sj u61_T0 u61_T1 u61_Rd q5.2.1 q5.2.2 u61_Mk u61_Lk u61_Ck z.2.2.2.2.2.2.2.2 z.2.2.2.2.2.2.1 z.2.2.2.2.2.2.2.1)) hE.1 C (c_Tx_size_1 hE l u61_x3 u61_T1 u61_Sj u61_T0 u61_Rd q5.2.1 q5.2.2 u61_Mk u61_Lk u61_Ck z.2.2.2.2.2.2.2.2 z.2.2.2.2.2.2.1 z.2.2.2.2.2.2.2.1 u61_rt hq13) hP (hDD _ _ _ _ _ _ _ _ _ _ _ _ _) hS hl.1 rfl cw_12 k_6_26 k_3_215 k_3_216 k_1_2 k_3_217 hv_Tx_size rfl rfl ⟨(by dsimp only [rm_Jd_apply, rm_Tx_size]; omega), (by dsimp only [rm_Jd_apply, rm_Tx_size]; omega)⟩ rfl (Nat.le_of_ble_eq_true rfl) ⟨Nat.zero_le _, Nat.zero_le _⟩ rfl d_Jd_apply_111 (fun H locs hP hS => ?_)
        refine lv_goto (tgt := 118) hx hb d_Jd_apply_114 (by decide) ?_
        refine lv_istore (lv' := [(14, .int q13), (13, .int q6), (11, .long q5.1), (0, .ref (ad 49)), (1, .ref (kd u61_x1)), (2, .int u61_x2), (3, .int u61_x3), (4, .int u61_x4), (5, .int u61_x5), (6, .int z.1), (7, .int z.2.1), (8, .int u61_x8), (9, .int z.2.2.1), (10, .int z.2.2.2.1)]) hx hb d_Jd_apply_118 hl (by decide) rfl (fun ls hl => ?_)
        refine lv_iconst (v := (0:Int32)) hx hb d_Jd_apply_120 (by decide) ?_
        refine lv_istore (lv' := [(15, .int (0:Int32)), (14, .int q13), (13, .int q6), (11, .long q5.1), (0, .ref (ad 49)), (1, .ref (kd u61_x1)), (2, .int u61_x2), (3, .int u61_x3), (4, .int u61_x4), (5, .int u61_x5), (6, .int z.1), (7, .int z.2.1), (8, .int u61_x8), (9, .int z.2.2.1), (10, .int z.2.2.2.1)]) hx hb d_Jd_apply_121 hl (by decide) rfl (fun ls hl => ?_)
        obtain ⟨q14, hq14, h⟩ := o_bd_some h
        refine o_sim2 (AH := fun zz => o_At p l e (rm_Jd_apply d) s m args below meth c _ o_cls D A 17 123 [] (o_cw ad ca u61_rt u61_Sj u61_T0 u61_T1 u61_Rd zz.2.2.2.2.1 zz.2.2.2.2.2.1 u61_Mk u61_Lk u61_Ck zz.2.2.2.2.2.2.2.2 zz.2.2.2.2.2.2.1 zz.2.2.2.2.2.2.2.1) [(0, .ref (ad 49)), (1, .ref (kd u61_x1)), (2, .int u61_x2), (3, .int u61_x3), (4, .int u61_x4), (5, .int u61_x5), (6, .int zz.1), (7, .int zz.2.1), (8, .int u61_x8), (9, .int z.2.2.1), (10, .int z.2.2.2.1), (11, .long q5.1), (13, .int zz.2.2.1), (14, .int q13), (15, .int zz.2.2.2.1)]) (AX := fun qq => o_At p l e (rm_Jd_apply d) s m args below meth c _ o_cls D A 17 248 [] (o_cw ad ca u61_rt u61_Sj u61_T0 u61_T1 u61_Rd qq.2.2.2.2.2.1 qq.2.2.2.2.2.2.1 u61_Mk u61_Lk u61_Ck qq.2.2.2.2.2.2.2.2.2 qq.2.2.2.2.2.2.2.1 qq.2.2.2.2.2.2.2.2.1) [(0, .ref (ad 49)), (1, .ref (kd u61_x1)), (2, .int u61_x2), (3, .int u61_x3), (4, .int u61_x4), (5, .int u61_x5), (6, .int qq.2.1), (7, .int qq.2.2.1), (8, .int u61_x8), (9, .int z.2.2.1), (10, .int z.2.2.2.1)]) (fun zz qq h h0 h1 => w_Jd_apply_b123 hE C hDD d rec hrec n u61_x1 gu61_x1 u61_x2 u61_x3 u61_x4 u61_x5 u61_x8 z.2.2.1 z.2.2.2.1 q5.1 q13 u61_T0 u61_T1 u61_Mk u61_Sj u61_Rd u61_Lk u61_Ck u61_rt zz qq h h0 h1) n _ q14 hq14 ?_ _ _ _ hP hS (lv_sub hl [4, 5, 6, 7, 8, 9, 10, 11, 12, 13, 14, 3, 2, 1, 0] rfl)
        intro H locs ls hP hS hl
        exact w_Jd_apply_j248 hE C hDD d rec hrec n u61_x1 gu61_x1 u61_x2 u61_x3 u61_x4 u61_x5 u61_x8 u61_T0 u61_T1 u61_Mk u61_Sj u61_Rd u61_Lk u61_Ck u61_rt q14.2.1 q14.2.2.1 z.2.2.1 z.2.2.2.1 q14.2.2.2.2.2.1 q14.2.2.2.2.2.2.1 q14.2.2.2.2.2.2.2.1 q14.2.2.2.2.2.2.2.2.1 q14.2.2.2.2.2.2.2.2.2 h h0 h1 _ _ _ hP hS (lv_sub hl [0, 1, 2, 3, 4, 5, 6, 7, 8, 9, 10] rfl)
set_option maxHeartbeats 4000000 in
set_option maxRecDepth 100000 in
theorem w_Jd_apply_j282 {E : (Nat → Prop) → State → Heap → Prop} {p : Program} {l : Launch} {e : Env} {s : State} {m : MethodId} {args : Array Value} {below : List Frame} {meth : Method} {c : Code} {D : va_G} {ad kd sd vd xd : Nat → Nat} {ca : Nat → ClassId} {A : Nat → Prop} (hE : o_EK E kd sd vd xd) (C : o_Cx E p s m args meth c D o_cls (o_tys ca) "SchemaJudge$Judge" b_Jd_apply (some .boolean) 17 cc_Jd_apply A) (hDD : ∀ (rt : Nat) (Sj : SSJ) (T0 : STx) (T1 : STx) (Rd : SRd) (Pg : SPg) (Pt : SPt) (Mk : SMk) (Lk : SLk) (Ck : SCk) (Jd : SJd) (Ld : SLd) (Pr : SPr), va_D A (o_cw ad ca rt Sj T0 T1 Rd Pg Pt Mk Lk Ck Jd Ld Pr)) (d : Nat) (rec : Int32 → Int32 → Int32 → STx → STx → SPg → SPt → SMk → SLd → SPr → SJd → Option (Int32 × SPg × SPt × SLd × SPr × SJd)) (hrec : ∀ (x1 : Int32) (x2 : Int32) (x3 : Int32) (T0 : STx) (T1 : STx) (Pg : SPg) (Pt : SPt) (Mk : SMk) (Ld : SLd) (Pr : SPr) (Jd : SJd) (Sj : SSJ) (Rd : SRd) (Lk : SLk) (Ck : SCk) (rt : Nat) (r : Int32 × SPg × SPt × SLd × SPr × SJd), rec x1 x2 x3 T0 T1 Pg Pt Mk Ld Pr Jd = some r → o_Cn E l D o_cls (o_tys ca) y_Jd_evaluate cc_Jd_evaluate (rm_Jd_evaluate d) [.ref (ad 49), .int x1, .int x2, .int x3] (o_cw ad ca rt Sj T0 T1 Rd Pg Pt Mk Lk Ck Jd Ld Pr) (o_cw ad ca rt Sj T0 T1 Rd r.2.1 r.2.2.1 Mk Lk Ck r.2.2.2.2.2 r.2.2.2.1 r.2.2.2.2.1) (some (.int r.1))) (n : Nat) (x1 : Nat) (gx1 : o_kb x1 = true) (x2 : Int32) (x5 : Int32) (x6 : Int32) (x7 : Int32) (y1 : Int32) (y2 : Int32) (T0 : STx) (T1 : STx) (Pg : SPg) (Pt : SPt) (Mk : SMk) (Ld : SLd) (Pr : SPr) (Jd : SJd) (Sj : SSJ) (Rd : SRd) (Lk : SLk) (Ck : SCk) (rt : Nat) {r : Int32 × SPg × SPt × SLd × SPr × SJd} (h : m_Jd_apply_j282 n rec x1 x2 x5 x6 x7 y1 y2 T0 T1 Pg Pt Mk Ld Pr Jd = some r) : o_At p l e (rm_Jd_apply d) s m args below meth c (MQ below (o_Qx D o_cls (some (.int r.1)) (o_cw ad ca rt Sj T0 T1 Rd r.2.1 r.2.2.1 Mk Lk Ck r.2.2.2.2.2 r.2.2.2.1 r.2.2.2.2.1) A) args s 0 0 A) o_cls D A 17 282 [.int y2, .int y1, .ref (ad 49)] (o_cw ad ca rt Sj T0 T1 Rd Pg Pt Mk Lk Ck Jd Ld Pr) [(0, .ref (ad 49)), (1, .ref (kd x1)), (2, .int x2), (5, .int x5), (6, .int x6), (7, .int x7)] := by
  unfold m_Jd_apply_j282 at h
  intro H locs ls hP hS hl
  have C0 := C
  obtain ⟨hx, hb, -, -, -, hown, hts, hK, -, -⟩ := C0
  refine lv_isub hx hb d_Jd_apply_282 ?_
  refine o_put (v := .int (y1 - y2)) (ty := .int) (w1 := (o_cw ad ca rt Sj T0 T1 Rd Pg Pt Mk Lk Ck (Jd_mk (Jd_evaluated Jd) (y1 - y2) (Jd_over Jd) (Jd_schemas Jd) (Jd_deepest Jd)) Ld Pr)) C in_Jd t_Jd t_Jd_ok n_Jd hP (hDD _ _ _ _ _ _ _ _ _ _ _ _ _) hS 49 cw_49 rfl 8 (by decide) k_2_82 rfl rfl (by decide +kernel) rfl rfl (Nat.le_of_ble_eq_true rfl) rfl d_Jd_apply_283 (fun H locs hP hS => ?_)
  refine lv_aload_n hx hb d_Jd_apply_286 rfl (lv_at hl 0 rfl) ?_
  refine lv_aload_n hx hb d_Jd_apply_287 rfl (lv_at hl 1 rfl) ?_
  refine lv_iload_n hx hb d_Jd_apply_288 rfl (lv_at hl 2 rfl) ?_
  refine lv_iload hx hb d_Jd_apply_289 (lv_at hl 4 rfl) ?_
  refine lv_iload hx hb d_Jd_apply_291 (lv_at hl 5 rfl) ?_
  obtain ⟨q17, hq17, h⟩ := o_bd_some h
  refine o_V (st1 := [.int q17]) (w1 := (o_cw ad ca rt Sj T0 T1 Rd Pg Pt Mk Lk Ck (Jd_mk (Jd_evaluated Jd) (y1 - y2) (Jd_over Jd) (Jd_schemas Jd) (Jd_deepest Jd)) Ld Pr)) hE.1 C (c_Jd_verdict hE l n x1 gx1 x2 x6 x7 T0 Mk Sj T1 Rd Pg Pt Lk Ck (Jd_mk (Jd_evaluated Jd) (y1 - y2) (Jd_over Jd) (Jd_schemas Jd) (Jd_deepest Jd)) Ld Pr rt hq17) hP (hDD _ _ _ _ _ _ _ _ _ _ _ _ _) hS hl.1 rfl cw_49 k_6_135 k_6_137 k_s_70 k_1_9 k_6_138 hv_Jd_verdict rfl rfl ⟨(by dsimp only [rm_Jd_apply, rm_Jd_verdict]; omega), (by dsimp only [rm_Jd_apply, rm_Jd_verdict]; omega)⟩ rfl (Nat.le_of_ble_eq_true rfl) ⟨Nat.zero_le _, Nat.zero_le _⟩ rfl d_Jd_apply_293 (fun H locs hP hS => ?_)
  refine lv_istore (lv' := [(10, .int q17), (0, .ref (ad 49)), (1, .ref (kd x1)), (2, .int x2), (5, .int x5), (6, .int x6), (7, .int x7)]) hx hb d_Jd_apply_296 hl (by decide) rfl (fun ls hl => ?_)
  refine lv_iload hx hb d_Jd_apply_298 (lv_at hl 0 rfl) ?_
  refine lv_if_eq (tgt := 319) hx hb d_Jd_apply_300 (by decide) (fun c13 => ?_) (fun c13 => ?_)
  · replace h := o_tt c13 h
    refine lv_iload hx hb d_Jd_apply_319 (lv_at hl 0 rfl) ?_
    obtain ⟨g14, h⟩ := o_gd_some h
    cases h
    exact o_rz C (o_zb_nar g14) hP hS d_Jd_apply_321
  · replace h := o_ff c13 h
    refine lv_aload_n hx hb d_Jd_apply_303 rfl (lv_at hl 2 rfl) ?_
    obtain ⟨q18, hq18, h⟩ := o_bd_some h
    refine o_VR (K := "SchemaJudge$Keyword") (st1 := [.int q18]) (w1 := (o_cw ad ca rt Sj T0 T1 Rd Pg Pt Mk Lk Ck (Jd_mk (Jd_evaluated Jd) (y1 - y2) (Jd_over Jd) (Jd_schemas Jd) (Jd_deepest Jd)) Ld Pr)) hE.1 C (c_Kw_tellsFailuresOnly hE l x1 gx1 Sj T0 T1 Rd Pg Pt Mk Lk Ck (Jd_mk (Jd_evaluated Jd) (y1 - y2) (Jd_over Jd) (Jd_schemas Jd) (Jd_deepest Jd)) Ld Pr rt hq18) hP (hDD _ _ _ _ _ _ _ _ _ _ _ _ _) hS hl.1 (o_rk hE C gx1 hS) k_6_144 k_6_145 k_6_146 k_1_25 k_6_147 hv_Kw_tellsFailuresOnly rfl rfl ⟨(by dsimp only [rm_Jd_apply, rm_Kw_tellsFailuresOnly]; omega), (by dsimp only [rm_Jd_apply, rm_Kw_tellsFailuresOnly]; omega)⟩ rfl (Nat.le_of_ble_eq_true rfl) ⟨Nat.zero_le _, Nat.zero_le _⟩ rfl d_Jd_apply_304 (fun H locs hP hS => ?_)
    refine lv_if_eq (tgt := 319) hx hb d_Jd_apply_307 (by decide) (fun c15 => ?_) (fun c15 => ?_)
    · replace h := o_tt c15 h
      refine lv_iload hx hb d_Jd_apply_319 (lv_at hl 0 rfl) ?_
      obtain ⟨g16, h⟩ := o_gd_some h
      cases h
      exact o_rz C (o_zb_nar g16) hP hS d_Jd_apply_321
    · replace h := o_ff c15 h
      refine lv_aload_n hx hb d_Jd_apply_310 rfl (lv_at hl 1 rfl) ?_
      refine o_get (v := .ref (ad 54)) C in_Jd hP 49 cw_49 rfl 6 (by decide) k_2_80 rfl rfl d_Jd_apply_311 ?_
      refine lv_iload hx hb d_Jd_apply_314 (lv_at hl 4 rfl) ?_
      obtain ⟨q19, hq19, h⟩ := o_bd_some h
      refine o_V (st1 := []) (w1 := (o_cw ad ca rt Sj T0 T1 Rd Pg Pt Mk Lk Ck (Jd_mk (Jd_evaluated Jd) (y1 - y2) (Jd_over Jd) (Jd_schemas Jd) (Jd_deepest Jd)) Ld q19)) hE.1 C (c_Pr_cut hE l x5 Pr Sj T0 T1 Rd Pg Pt Mk Lk Ck (Jd_mk (Jd_evaluated Jd) (y1 - y2) (Jd_over Jd) (Jd_schemas Jd) (Jd_deepest Jd)) Ld rt hq19) hP (hDD _ _ _ _ _ _ _ _ _ _ _ _ _) hS hl.1 rfl cw_54 k_6_3 k_6_4 k_6_5 k_1_11 k_6_6 hv_Pr_cut rfl rfl ⟨(by dsimp only [rm_Jd_apply, rm_Pr_cut]; omega), (by dsimp only [rm_Jd_apply, rm_Pr_cut]; omega)⟩ rfl (Nat.le_of_ble_eq_true rfl) ⟨Nat.zero_le _, Nat.zero_le _⟩ rfl d_Jd_apply_316 (fun H locs hP hS => ?_)
      refine lv_iload hx hb d_Jd_apply_319 (lv_at hl 0 rfl) ?_
      obtain ⟨g17, h⟩ := o_gd_some h
      cases h
      exact o_rz C (o_zb_nar g17) hP hS d_Jd_apply_321
set_option maxHeartbeats 4000000 in
set_option maxRecDepth 100000 in
theorem w_Jd_apply_j265 {E : (Nat → Prop) → State → Heap → Prop} {p : Program} {l : Launch} {e : Env} {s : State} {m : MethodId} {args : Array Value} {below : List Frame} {meth : Method} {c : Code} {D : va_G} {ad kd sd vd xd : Nat → Nat} {ca : Nat → ClassId} {A : Nat → Prop} (hE : o_EK E kd sd vd xd) (C : o_Cx E p s m args meth c D o_cls (o_tys ca) "SchemaJudge$Judge" b_Jd_apply (some .boolean) 17 cc_Jd_apply A) (hDD : ∀ (rt : Nat) (Sj : SSJ) (T0 : STx) (T1 : STx) (Rd : SRd) (Pg : SPg) (Pt : SPt) (Mk : SMk) (Lk : SLk) (Ck : SCk) (Jd : SJd) (Ld : SLd) (Pr : SPr), va_D A (o_cw ad ca rt Sj T0 T1 Rd Pg Pt Mk Lk Ck Jd Ld Pr)) (d : Nat) (rec : Int32 → Int32 → Int32 → STx → STx → SPg → SPt → SMk → SLd → SPr → SJd → Option (Int32 × SPg × SPt × SLd × SPr × SJd)) (hrec : ∀ (x1 : Int32) (x2 : Int32) (x3 : Int32) (T0 : STx) (T1 : STx) (Pg : SPg) (Pt : SPt) (Mk : SMk) (Ld : SLd) (Pr : SPr) (Jd : SJd) (Sj : SSJ) (Rd : SRd) (Lk : SLk) (Ck : SCk) (rt : Nat) (r : Int32 × SPg × SPt × SLd × SPr × SJd), rec x1 x2 x3 T0 T1 Pg Pt Mk Ld Pr Jd = some r → o_Cn E l D o_cls (o_tys ca) y_Jd_evaluate cc_Jd_evaluate (rm_Jd_evaluate d) [.ref (ad 49), .int x1, .int x2, .int x3] (o_cw ad ca rt Sj T0 T1 Rd Pg Pt Mk Lk Ck Jd Ld Pr) (o_cw ad ca rt Sj T0 T1 Rd r.2.1 r.2.2.1 Mk Lk Ck r.2.2.2.2.2 r.2.2.2.1 r.2.2.2.2.1) (some (.int r.1))) (n : Nat) (x1 : Nat) (gx1 : o_kb x1 = true) (x2 : Int32) (x5 : Int32) (x6 : Int32) (x7 : Int32) (T0 : STx) (T1 : STx) (Pg : SPg) (Pt : SPt) (Mk : SMk) (Ld : SLd) (Pr : SPr) (Jd : SJd) (Sj : SSJ) (Rd : SRd) (Lk : SLk) (Ck : SCk) (rt : Nat) {r : Int32 × SPg × SPt × SLd × SPr × SJd} (h : m_Jd_apply_j265 n rec x1 x2 x5 x6 x7 T0 T1 Pg Pt Mk Ld Pr Jd = some r) : o_At p l e (rm_Jd_apply d) s m args below meth c (MQ below (o_Qx D o_cls (some (.int r.1)) (o_cw ad ca rt Sj T0 T1 Rd r.2.1 r.2.2.1 Mk Lk Ck r.2.2.2.2.2 r.2.2.2.1 r.2.2.2.2.1) A) args s 0 0 A) o_cls D A 17 265 [] (o_cw ad ca rt Sj T0 T1 Rd Pg Pt Mk Lk Ck Jd Ld Pr) [(0, .ref (ad 49)), (1, .ref (kd x1)), (2, .int x2), (5, .int x5), (6, .int x6), (7, .int x7)] := by
  unfold m_Jd_apply_j265 at h
  intro H locs ls hP hS hl
  have C0 := C
  obtain ⟨hx, hb, -, -, -, hown, hts, hK, -, -⟩ := C0
  refine lv_aload_n hx hb d_Jd_apply_265 rfl (lv_at hl 0 rfl) ?_
  refine lv_dup hx hb d_Jd_apply_266 rfl ?_
  refine o_get (v := .int (Jd_silences Jd)) C in_Jd hP 49 cw_49 rfl 8 (by decide) k_2_82 rfl rfl d_Jd_apply_267 ?_
  refine lv_aload_n hx hb d_Jd_apply_270 rfl (lv_at hl 1 rfl) ?_
  obtain ⟨q16, hq16, h⟩ := o_bd_some h
  refine o_VR (K := "SchemaJudge$Keyword") (st1 := [.int q16, .int (Jd_silences Jd), .ref (ad 49)]) (w1 := (o_cw ad ca rt Sj T0 T1 Rd Pg Pt Mk Lk Ck Jd Ld Pr)) hE.1 C (c_Kw_isSilent hE l x1 gx1 Sj T0 T1 Rd Pg Pt Mk Lk Ck Jd Ld Pr rt hq16) hP (hDD _ _ _ _ _ _ _ _ _ _ _ _ _) hS hl.1 (o_rk hE C gx1 hS) k_6_47 k_6_48 k_6_49 k_1_25 k_6_50 hv_Kw_isSilent rfl rfl ⟨(by dsimp only [rm_Jd_apply, rm_Kw_isSilent]; omega), (by dsimp only [rm_Jd_apply, rm_Kw_isSilent]; omega)⟩ rfl (Nat.le_of_ble_eq_true rfl) ⟨Nat.zero_le _, Nat.zero_le _⟩ rfl d_Jd_apply_271 (fun H locs hP hS => ?_)
  refine lv_if_eq (tgt := 281) hx hb d_Jd_apply_274 (by decide) (fun c12 => ?_) (fun c12 => ?_)
  · replace h := o_tt c12 h
    refine lv_iconst (v := (0:Int32)) hx hb d_Jd_apply_281 (by decide) ?_
    exact w_Jd_apply_j282 hE C hDD d rec hrec n x1 gx1 x2 x5 x6 x7 (Jd_silences Jd) (0:Int32) T0 T1 Pg Pt Mk Ld Pr Jd Sj Rd Lk Ck rt h _ _ _ hP hS (lv_sub hl [0, 1, 2, 3, 4, 5] rfl)
  · replace h := o_ff c12 h
    refine lv_iconst (v := (1:Int32)) hx hb d_Jd_apply_277 (by decide) ?_
    refine lv_goto (tgt := 282) hx hb d_Jd_apply_278 (by decide) ?_
    exact w_Jd_apply_j282 hE C hDD d rec hrec n x1 gx1 x2 x5 x6 x7 (Jd_silences Jd) (1:Int32) T0 T1 Pg Pt Mk Ld Pr Jd Sj Rd Lk Ck rt h _ _ _ hP hS (lv_sub hl [0, 1, 2, 3, 4, 5] rfl)
set_option maxHeartbeats 4000000 in
set_option maxRecDepth 100000 in
theorem w_Jd_apply_j32 {E : (Nat → Prop) → State → Heap → Prop} {p : Program} {l : Launch} {e : Env} {s : State} {m : MethodId} {args : Array Value} {below : List Frame} {meth : Method} {c : Code} {D : va_G} {ad kd sd vd xd : Nat → Nat} {ca : Nat → ClassId} {A : Nat → Prop} (hE : o_EK E kd sd vd xd) (C : o_Cx E p s m args meth c D o_cls (o_tys ca) "SchemaJudge$Judge" b_Jd_apply (some .boolean) 17 cc_Jd_apply A) (hDD : ∀ (rt : Nat) (Sj : SSJ) (T0 : STx) (T1 : STx) (Rd : SRd) (Pg : SPg) (Pt : SPt) (Mk : SMk) (Lk : SLk) (Ck : SCk) (Jd : SJd) (Ld : SLd) (Pr : SPr), va_D A (o_cw ad ca rt Sj T0 T1 Rd Pg Pt Mk Lk Ck Jd Ld Pr)) (d : Nat) (rec : Int32 → Int32 → Int32 → STx → STx → SPg → SPt → SMk → SLd → SPr → SJd → Option (Int32 × SPg × SPt × SLd × SPr × SJd)) (hrec : ∀ (x1 : Int32) (x2 : Int32) (x3 : Int32) (T0 : STx) (T1 : STx) (Pg : SPg) (Pt : SPt) (Mk : SMk) (Ld : SLd) (Pr : SPr) (Jd : SJd) (Sj : SSJ) (Rd : SRd) (Lk : SLk) (Ck : SCk) (rt : Nat) (r : Int32 × SPg × SPt × SLd × SPr × SJd), rec x1 x2 x3 T0 T1 Pg Pt Mk Ld Pr Jd = some r → o_Cn E l D o_cls (o_tys ca) y_Jd_evaluate cc_Jd_evaluate (rm_Jd_evaluate d) [.ref (ad 49), .int x1, .int x2, .int x3] (o_cw ad ca rt Sj T0 T1 Rd Pg Pt Mk Lk Ck Jd Ld Pr) (o_cw ad ca rt Sj T0 T1 Rd r.2.1 r.2.2.1 Mk Lk Ck r.2.2.2.2.2 r.2.2.2.1 r.2.2.2.2.1) (some (.int r.1))) (n : Nat) (x1 : Nat) (gx1 : o_kb x1 = true) (x2 : Int32) (x3 : Int32) (x4 : Int32) (x5 : Int32) (x6 : Int32) (x7 : Int32) (y1 : Int32) (y2 : Int32) (T0 : STx) (T1 : STx) (Pg : SPg) (Pt : SPt) (Mk : SMk) (Ld : SLd) (Pr : SPr) (Jd : SJd) (Sj : SSJ) (Rd : SRd) (Lk : SLk) (Ck : SCk) (rt : Nat) {r : Int32 × SPg × SPt × SLd × SPr × SJd} (h : m_Jd_apply_j32 n rec x1 x2 x3 x4 x5 x6 x7 y1 y2 T0 T1 Pg Pt Mk Ld Pr Jd = some r) : o_At p l e (rm_Jd_apply d) s m args below meth c (MQ below (o_Qx D o_cls (some (.int r.1)) (o_cw ad ca rt Sj T0 T1 Rd r.2.1 r.2.2.1 Mk Lk Ck r.2.2.2.2.2 r.2.2.2.1 r.2.2.2.2.1) A) args s 0 0 A) o_cls D A 17 32 [.int y2, .int y1, .ref (ad 49)] (o_cw ad ca rt Sj T0 T1 Rd Pg Pt Mk Lk Ck Jd Ld Pr) [(0, .ref (ad 49)), (1, .ref (kd x1)), (2, .int x2), (3, .int x3), (4, .int x4), (5, .int x5), (6, .int x6), (7, .int x7)] := by
  unfold m_Jd_apply_j32 at h
  intro H locs ls hP hS hl
  have C0 := C
  obtain ⟨hx, hb, -, -, -, hown, hts, hK, -, -⟩ := C0
  refine lv_iadd hx hb d_Jd_apply_32 ?_
  refine o_put (v := .int (y1 + y2)) (ty := .int) (w1 := (o_cw ad ca rt Sj T0 T1 Rd Pg Pt Mk Lk Ck (Jd_mk (Jd_evaluated Jd) (y1 + y2) (Jd_over Jd) (Jd_schemas Jd) (Jd_deepest Jd)) Ld Pr)) C in_Jd t_Jd t_Jd_ok n_Jd hP (hDD _ _ _ _ _ _ _ _ _ _ _ _ _) hS 49 cw_49 rfl 8 (by decide) k_2_82 rfl rfl (by decide +kernel) rfl rfl (Nat.le_of_ble_eq_true rfl) rfl d_Jd_apply_33 (fun H locs hP hS => ?_)
  refine lv_aload_n hx hb d_Jd_apply_36 rfl (lv_at hl 0 rfl) ?_
  refine o_get (v := .ref (ad 39)) C in_Jd hP 49 cw_49 rfl 1 (by decide) k_2_75 rfl rfl d_Jd_apply_37 ?_
  refine lv_aload_n hx hb d_Jd_apply_40 rfl (lv_at hl 1 rfl) ?_
  refine lv_iload_n hx hb d_Jd_apply_41 rfl (lv_at hl 2 rfl) ?_
  obtain ⟨q3, hq3, h⟩ := o_bd_some h
  refine o_V (st1 := [.int q3]) (w1 := (o_cw ad ca rt Sj T0 T1 Rd Pg Pt Mk Lk Ck (Jd_mk (Jd_evaluated Jd) (y1 + y2) (Jd_over Jd) (Jd_schemas Jd) (Jd_deepest Jd)) Ld Pr)) hE.1 C (c_Mk_schemaCount hE l x1 gx1 x2 T0 Sj T1 Rd Pg Pt Mk Lk Ck (Jd_mk (Jd_evaluated Jd) (y1 + y2) (Jd_over Jd) (Jd_schemas Jd) (Jd_deepest Jd)) Ld Pr rt hq3) hP (hDD _ _ _ _ _ _ _ _ _ _ _ _ _) hS hl.1 rfl cw_39 k_6_56 k_5_217 k_5_218 k_1_6 k_5_219 hv_Mk_schemaCount rfl rfl ⟨(by dsimp only [rm_Jd_apply, rm_Mk_schemaCount]; omega), (by dsimp only [rm_Jd_apply, rm_Mk_schemaCount]; omega)⟩ rfl (Nat.le_of_ble_eq_true rfl) ⟨Nat.zero_le _, Nat.zero_le _⟩ rfl d_Jd_apply_42 (fun H locs hP hS => ?_)
  refine lv_istore (lv' := [(8, .int q3), (0, .ref (ad 49)), (1, .ref (kd x1)), (2, .int x2), (3, .int x3), (4, .int x4), (5, .int x5), (6, .int x6), (7, .int x7)]) hx hb d_Jd_apply_45 hl (by decide) rfl (fun ls hl => ?_)
  refine lv_aload_n hx hb d_Jd_apply_47 rfl (lv_at hl 1 rfl) ?_
  refine o_get (v := .ref (ad 39)) C in_Jd hP 49 cw_49 rfl 1 (by decide) k_2_75 rfl rfl d_Jd_apply_48 ?_
  refine lv_aload_n hx hb d_Jd_apply_51 rfl (lv_at hl 2 rfl) ?_
  refine lv_iload_n hx hb d_Jd_apply_52 rfl (lv_at hl 3 rfl) ?_
  obtain ⟨q4, hq4, h⟩ := o_bd_some h
  refine o_V (st1 := [.int q4]) (w1 := (o_cw ad ca rt Sj T0 T1 Rd Pg Pt Mk Lk Ck (Jd_mk (Jd_evaluated Jd) (y1 + y2) (Jd_over Jd) (Jd_schemas Jd) (Jd_deepest Jd)) Ld Pr)) hE.1 C (c_Mk_firstSchema hE l x1 gx1 x2 T0 Mk Sj T1 Rd Pg Pt Lk Ck (Jd_mk (Jd_evaluated Jd) (y1 + y2) (Jd_over Jd) (Jd_schemas Jd) (Jd_deepest Jd)) Ld Pr rt hq4) hP (hDD _ _ _ _ _ _ _ _ _ _ _ _ _) hS hl.1 rfl cw_39 k_6_57 k_5_222 k_5_223 k_1_6 k_5_224 hv_Mk_firstSchema rfl rfl ⟨(by dsimp only [rm_Jd_apply, rm_Mk_firstSchema]; omega), (by dsimp only [rm_Jd_apply, rm_Mk_firstSchema]; omega)⟩ rfl (Nat.le_of_ble_eq_true rfl) ⟨Nat.zero_le _, Nat.zero_le _⟩ rfl d_Jd_apply_53 (fun H locs hP hS => ?_)
  refine lv_istore (lv' := [(9, .int q4), (8, .int q3), (0, .ref (ad 49)), (1, .ref (kd x1)), (2, .int x2), (3, .int x3), (4, .int x4), (5, .int x5), (6, .int x6), (7, .int x7)]) hx hb d_Jd_apply_56 hl (by decide) rfl (fun ls hl => ?_)
  refine lv_iconst (v := (0:Int32)) hx hb d_Jd_apply_58 (by decide) ?_
  refine lv_istore (lv' := [(10, .int (0:Int32)), (9, .int q4), (8, .int q3), (0, .ref (ad 49)), (1, .ref (kd x1)), (2, .int x2), (3, .int x3), (4, .int x4), (5, .int x5), (6, .int x6), (7, .int x7)]) hx hb d_Jd_apply_59 hl (by decide) rfl (fun ls hl => ?_)
  obtain ⟨q15, hq15, h⟩ := o_bd_some h
  refine o_sim2 (AH := fun zz => o_At p l e (rm_Jd_apply d) s m args below meth c _ o_cls D A 17 61 [] (o_cw ad ca rt Sj T0 T1 Rd zz.2.2.2.2.1 zz.2.2.2.2.2.1 Mk Lk Ck zz.2.2.2.2.2.2.2.2 zz.2.2.2.2.2.2.1 zz.2.2.2.2.2.2.2.1) [(0, .ref (ad 49)), (1, .ref (kd x1)), (2, .int x2), (3, .int x3), (4, .int x4), (5, .int x5), (6, .int zz.1), (7, .int zz.2.1), (8, .int q3), (9, .int zz.2.2.1), (10, .int zz.2.2.2.1)]) (AX := fun qq => o_At p l e (rm_Jd_apply d) s m args below meth c _ o_cls D A 17 265 [] (o_cw ad ca rt Sj T0 T1 Rd qq.2.2.2.2.2.1 qq.2.2.2.2.2.2.1 Mk Lk Ck qq.2.2.2.2.2.2.2.2.2 qq.2.2.2.2.2.2.2.1 qq.2.2.2.2.2.2.2.2.1) [(0, .ref (ad 49)), (1, .ref (kd x1)), (2, .int x2), (5, .int x5), (6, .int qq.2.1), (7, .int qq.2.2.1)]) (fun zz qq h h0 h1 => w_Jd_apply_b61 hE C hDD d rec hrec n x1 gx1 x2 x3 x4 x5 q3 T0 T1 Mk Sj Rd Lk Ck rt zz qq h h0 h1) n _ q15 hq15 ?_ _ _ _ hP hS (lv_sub hl [3, 4, 5, 6, 7, 8, 9, 10, 2, 1, 0] rfl)
  intro H locs ls hP hS hl
  exact w_Jd_apply_j265 hE C hDD d rec hrec n x1 gx1 x2 x5 q15.2.1 q15.2.2.1 T0 T1 q15.2.2.2.2.2.1 q15.2.2.2.2.2.2.1 Mk q15.2.2.2.2.2.2.2.1 q15.2.2.2.2.2.2.2.2.1 q15.2.2.2.2.2.2.2.2.2 Sj Rd Lk Ck rt h _ _ _ hP hS (lv_sub hl [0, 1, 2, 3, 4, 5] rfl)
set_option maxHeartbeats 4000000 in
set_option maxRecDepth 100000 in
theorem c_Jd_apply {E : (Nat → Prop) → State → Heap → Prop} {D : va_G} {ad kd sd vd xd : Nat → Nat} {ca : Nat → ClassId} (hE : o_EK E kd sd vd xd) (l : Launch) (n : Nat) (d : Nat) (rec : Int32 → Int32 → Int32 → STx → STx → SPg → SPt → SMk → SLd → SPr → SJd → Option (Int32 × SPg × SPt × SLd × SPr × SJd)) (hrec : ∀ (x1 : Int32) (x2 : Int32) (x3 : Int32) (T0 : STx) (T1 : STx) (Pg : SPg) (Pt : SPt) (Mk : SMk) (Ld : SLd) (Pr : SPr) (Jd : SJd) (Sj : SSJ) (Rd : SRd) (Lk : SLk) (Ck : SCk) (rt : Nat) (r : Int32 × SPg × SPt × SLd × SPr × SJd), rec x1 x2 x3 T0 T1 Pg Pt Mk Ld Pr Jd = some r → o_Cn E l D o_cls (o_tys ca) y_Jd_evaluate cc_Jd_evaluate (rm_Jd_evaluate d) [.ref (ad 49), .int x1, .int x2, .int x3] (o_cw ad ca rt Sj T0 T1 Rd Pg Pt Mk Lk Ck Jd Ld Pr) (o_cw ad ca rt Sj T0 T1 Rd r.2.1 r.2.2.1 Mk Lk Ck r.2.2.2.2.2 r.2.2.2.1 r.2.2.2.2.1) (some (.int r.1))) (x1 : Nat) (gx1 : o_kb x1 = true) (x2 : Int32) (x3 : Int32) (x4 : Int32) (T0 : STx) (T1 : STx) (Pg : SPg) (Pt : SPt) (Mk : SMk) (Ld : SLd) (Pr : SPr) (Jd : SJd) (Sj : SSJ) (Rd : SRd) (Lk : SLk) (Ck : SCk) (rt : Nat) {r : Int32 × SPg × SPt × SLd × SPr × SJd} (h : m_Jd_apply n rec x1 x2 x3 x4 T0 T1 Pg Pt Mk Ld Pr Jd = some r) : o_Cn E l D o_cls (o_tys ca) y_Jd_apply cc_Jd_apply (rm_Jd_apply d) [.ref (ad 49), .ref (kd x1), .int x2, .int x3, .int x4] (o_cw ad ca rt Sj T0 T1 Rd Pg Pt Mk Lk Ck Jd Ld Pr) (o_cw ad ca rt Sj T0 T1 Rd r.2.1 r.2.2.1 Mk Lk Ck r.2.2.2.2.2 r.2.2.2.1 r.2.2.2.2.1) (some (.int r.1)) := by
  refine o_Cn_of (by decide) (Nat.le_of_ble_eq_true rfl) ?_
  intro p e s m below meth c A ls C hD hP hS hl
  have hDD : ∀ (rt : Nat) (Sj : SSJ) (T0 : STx) (T1 : STx) (Rd : SRd) (Pg : SPg) (Pt : SPt) (Mk : SMk) (Lk : SLk) (Ck : SCk) (Jd : SJd) (Ld : SLd) (Pr : SPr), va_D A (o_cw ad ca rt Sj T0 T1 Rd Pg Pt Mk Lk Ck Jd Ld Pr) := fun _ _ _ _ _ _ _ _ _ _ _ _ _ => o_D_map hD rfl
  have hl : lv_has ls 17 [(0, .ref (ad 49)), (1, .ref (kd x1)), (2, .int x2), (3, .int x3), (4, .int x4)] := hl
  unfold m_Jd_apply at h
  have C0 := C
  obtain ⟨hx, hb, -, -, -, hown, hts, hK, -, -⟩ := C0
  refine lv_aload_n hx hb d_Jd_apply_0 rfl (lv_at hl 0 rfl) ?_
  refine o_get (v := .ref (ad 54)) C in_Jd hP 49 cw_49 rfl 6 (by decide) k_2_80 rfl rfl d_Jd_apply_1 ?_
  obtain ⟨q1, hq1, h⟩ := o_bd_some h
  refine o_V (st1 := [.int q1]) (w1 := (o_cw ad ca rt Sj T0 T1 Rd Pg Pt Mk Lk Ck Jd Ld Pr)) hE.1 C (c_Pr_size hE l Pr Sj T0 T1 Rd Pg Pt Mk Lk Ck Jd Ld rt hq1) hP (hDD _ _ _ _ _ _ _ _ _ _ _ _ _) hS hl.1 rfl cw_54 k_2_156 k_2_157 k_2_158 k_1_11 k_2_159 hv_Pr_size rfl rfl ⟨(by dsimp only [rm_Jd_apply, rm_Pr_size]; omega), (by dsimp only [rm_Jd_apply, rm_Pr_size]; omega)⟩ rfl (Nat.le_of_ble_eq_true rfl) ⟨Nat.zero_le _, Nat.zero_le _⟩ rfl d_Jd_apply_4 (fun H locs hP hS => ?_)
  refine lv_istore (lv' := [(5, .int q1), (0, .ref (ad 49)), (1, .ref (kd x1)), (2, .int x2), (3, .int x3), (4, .int x4)]) hx hb d_Jd_apply_7 hl (by decide) rfl (fun ls hl => ?_)
  refine lv_iconst (v := (0:Int32)) hx hb d_Jd_apply_9 (by decide) ?_
  refine lv_istore (lv' := [(6, .int (0:Int32)), (5, .int q1), (0, .ref (ad 49)), (1, .ref (kd x1)), (2, .int x2), (3, .int x3), (4, .int x4)]) hx hb d_Jd_apply_10 hl (by decide) rfl (fun ls hl => ?_)
  refine lv_iconst (v := (0:Int32)) hx hb d_Jd_apply_12 (by decide) ?_
  refine lv_istore (lv' := [(7, .int (0:Int32)), (6, .int (0:Int32)), (5, .int q1), (0, .ref (ad 49)), (1, .ref (kd x1)), (2, .int x2), (3, .int x3), (4, .int x4)]) hx hb d_Jd_apply_13 hl (by decide) rfl (fun ls hl => ?_)
  refine lv_aload_n hx hb d_Jd_apply_15 rfl (lv_at hl 3 rfl) ?_
  refine lv_dup hx hb d_Jd_apply_16 rfl ?_
  refine o_get (v := .int (Jd_silences Jd)) C in_Jd hP 49 cw_49 rfl 8 (by decide) k_2_82 rfl rfl d_Jd_apply_17 ?_
  refine lv_aload_n hx hb d_Jd_apply_20 rfl (lv_at hl 4 rfl) ?_
  obtain ⟨q2, hq2, h⟩ := o_bd_some h
  refine o_VR (K := "SchemaJudge$Keyword") (st1 := [.int q2, .int (Jd_silences Jd), .ref (ad 49)]) (w1 := (o_cw ad ca rt Sj T0 T1 Rd Pg Pt Mk Lk Ck Jd Ld Pr)) hE.1 C (c_Kw_isSilent hE l x1 gx1 Sj T0 T1 Rd Pg Pt Mk Lk Ck Jd Ld Pr rt hq2) hP (hDD _ _ _ _ _ _ _ _ _ _ _ _ _) hS hl.1 (o_rk hE C gx1 hS) k_6_47 k_6_48 k_6_49 k_1_25 k_6_50 hv_Kw_isSilent rfl rfl ⟨(by dsimp only [rm_Jd_apply, rm_Kw_isSilent]; omega), (by dsimp only [rm_Jd_apply, rm_Kw_isSilent]; omega)⟩ rfl (Nat.le_of_ble_eq_true rfl) ⟨Nat.zero_le _, Nat.zero_le _⟩ rfl d_Jd_apply_21 (fun H locs hP hS => ?_)
  refine lv_if_eq (tgt := 31) hx hb d_Jd_apply_24 (by decide) (fun c1 => ?_) (fun c1 => ?_)
  · replace h := o_tt c1 h
    refine lv_iconst (v := (0:Int32)) hx hb d_Jd_apply_31 (by decide) ?_
    exact w_Jd_apply_j32 hE C hDD d rec hrec n x1 gx1 x2 x3 x4 q1 (0:Int32) (0:Int32) (Jd_silences Jd) (0:Int32) T0 T1 Pg Pt Mk Ld Pr Jd Sj Rd Lk Ck rt h _ _ _ hP hS (lv_sub hl [3, 4, 5, 6, 7, 2, 1, 0] rfl)
  · replace h := o_ff c1 h
    refine lv_iconst (v := (1:Int32)) hx hb d_Jd_apply_27 (by decide) ?_
    refine lv_goto (tgt := 32) hx hb d_Jd_apply_28 (by decide) ?_
    exact w_Jd_apply_j32 hE C hDD d rec hrec n x1 gx1 x2 x3 x4 q1 (0:Int32) (0:Int32) (Jd_silences Jd) (1:Int32) T0 T1 Pg Pt Mk Ld Pr Jd Sj Rd Lk Ck rt h _ _ _ hP hS (lv_sub hl [3, 4, 5, 6, 7, 2, 1, 0] rfl)
