set_option maxHeartbeats 4000000 in
set_option maxRecDepth 100000 in
theorem w_Tx_sameString_b102_10 {E : (Nat → Prop) → State → Heap → Prop} {p : Program} {l : Launch} {e : Env} {s : State} {m : MethodId} {args : Array Value} {below : List Frame} {meth : Method} {c : Code} {D : va_G} {ad kd sd vd xd : Nat → Nat} {ca : Nat → ClassId} {A : Nat → Prop} {Q : State → Prop} (hE : o_EK E kd sd vd xd) (C : o_Cx E p s m args meth c D o_cls (o_tys ca) "SchemaJudge$Text" b_Tx_sameString (some .boolean) 8 cc_Tx_sameString A) (hDD : ∀ (rt : Nat) (Sj : SSJ) (T0 : STx) (T1 : STx) (Rd : SRd) (Pg : SPg) (Pt : SPt) (Mk : SMk) (Lk : SLk) (Ck : SCk) (Jd : SJd) (Ld : SLd) (Pr : SPr), va_D A (o_cw ad ca rt Sj T0 T1 Rd Pg Pt Mk Lk Ck Jd Ld Pr)) (n : Nat) (u102_x4 : Int32) (u102_x5 : Int32) (u102_x6 : Int32) (u102_a0 : STx) (u102_a2 : STx) (u102_Sj : SSJ) (u102_Rd : SRd) (u102_Pg : SPg) (u102_Pt : SPt) (u102_Mk : SMk) (u102_Lk : SLk) (u102_Ck : SCk) (u102_Jd : SJd) (u102_Ld : SLd) (u102_Pr : SPr) (u102_rt : Nat) (z : Int32) (q : Nat × Int32) (h : m_Tx_sameString_b102 n u102_x4 u102_x5 u102_x6 u102_a0 u102_a2 z = some q) (h0 : q.1 = 0 → o_At p l e rm_Tx_sameString s m args below meth c Q o_cls D A 8 102 [] (o_cw ad ca u102_rt u102_Sj u102_a2 u102_a0 u102_Rd u102_Pg u102_Pt u102_Mk u102_Lk u102_Ck u102_Jd u102_Ld u102_Pr) [(0, .ref (ad 12)), (2, .ref (ad 1)), (4, .int u102_x4), (5, .int u102_x5), (6, .int u102_x6), (7, .int q.2)]) (h1 : q.1 ≠ 0 → (if q.1 = 1 then o_At p l e rm_Tx_sameString s m args below meth c Q o_cls D A 8 132 [] (o_cw ad ca u102_rt u102_Sj u102_a2 u102_a0 u102_Rd u102_Pg u102_Pt u102_Mk u102_Lk u102_Ck u102_Jd u102_Ld u102_Pr) [] else o_At p l e rm_Tx_sameString s m args below meth c Q o_cls D A 8 140 [] (o_cw ad ca u102_rt u102_Sj u102_a2 u102_a0 u102_Rd u102_Pg u102_Pt u102_Mk u102_Lk u102_Ck u102_Jd u102_Ld u102_Pr) [])) : o_At p l e rm_Tx_sameString s m args below meth c Q o_cls D A 8 102 [] (o_cw ad ca u102_rt u102_Sj u102_a2 u102_a0 u102_Rd u102_Pg u102_Pt u102_Mk u102_Lk u102_Ck u102_Jd u102_Ld u102_Pr) [(0, .ref (ad 12)), (2, .ref (ad 1)), (4, .int u102_x4), (5, .int u102_x5), (6, .int u102_x6), (7, .int z)] := by
  unfold m_Tx_sameString_b102 at h
  intro H locs ls hP hS hl
  have C0 := C
  obtain ⟨hx, hb, -, -, -, hown, hts, hK, -, -⟩ := C0
  refine lv_iload hx hb d_Tx_sameString_102 (lv_at hl 5 rfl) ?_
  refine lv_iload hx hb d_Tx_sameString_104 (lv_at hl 4 rfl) ?_
  refine lv_icmp_ge (tgt := 140) hx hb d_Tx_sameString_106 (by decide) (fun c15 => ?_) (fun c15 => ?_)
  · replace h := o_tt c15 h
    cases h
    exact h1 (Nat.succ_ne_zero 1) _ _ _ hP hS (lv_sub hl [] rfl)
  · replace h := o_ff c15 h
    refine lv_aload_n hx hb d_Tx_sameString_109 rfl (lv_at hl 0 rfl) ?_
    refine o_get (v := .ref (ad 22)) C in_Tx hP 12 cw_12 rfl 9 (by decide) k_1_55 rfl rfl d_Tx_sameString_110 ?_
    refine lv_iload hx hb d_Tx_sameString_113 (lv_at hl 2 rfl) ?_
    refine lv_iload hx hb d_Tx_sameString_115 (lv_at hl 5 rfl) ?_
    refine lv_iadd hx hb d_Tx_sameString_117 ?_
    obtain ⟨g16, h⟩ := o_gd_some h
    refine o_iald (f := (Tx_cells u102_a0)) C hP 22 19 cw_22 rfl g16 d_Tx_sameString_118 ?_
    refine lv_aload_n hx hb d_Tx_sameString_119 rfl (lv_at hl 1 rfl) ?_
    refine o_get (v := .ref (ad 11)) C in_Tx hP 1 cw_1 rfl 9 (by decide) k_1_55 rfl rfl d_Tx_sameString_120 ?_
    refine lv_iload hx hb d_Tx_sameString_123 (lv_at hl 3 rfl) ?_
    refine lv_iload hx hb d_Tx_sameString_125 (lv_at hl 5 rfl) ?_
    refine lv_iadd hx hb d_Tx_sameString_127 ?_
    obtain ⟨g17, h⟩ := o_gd_some h
    refine o_iald (f := (Tx_cells u102_a2)) C hP 11 9 cw_11 rfl g17 d_Tx_sameString_128 ?_
    refine lv_icmp_eq (tgt := 134) hx hb d_Tx_sameString_129 (by decide) (fun c18 => ?_) (fun c18 => ?_)
    · replace h := o_tt c18 h
      obtain ⟨x7_134, ex7_134⟩ : ∃ y : Int32, y = z + (1:Int32) := ⟨_, rfl⟩
      replace h := o_nm_at ex7_134 h
      refine lv_iinc (v := x7_134) (lv' := [(7, .int x7_134), (0, .ref (ad 12)), (2, .ref (ad 1)), (4, .int u102_x4), (5, .int u102_x5), (6, .int u102_x6)]) hx hb d_Tx_sameString_134 hl (k := 5) rfl (by rw [ex7_134]; rfl) (by decide) rfl (fun ls hl => ?_)
      refine lv_goto (tgt := 102) hx hb d_Tx_sameString_137 (by decide) ?_
      cases h
      exact h0 rfl _ _ _ hP hS (lv_sub hl [1, 2, 3, 4, 5, 0] rfl)
    · replace h := o_ff c18 h
      cases h
      exact h1 (Nat.succ_ne_zero 0) _ _ _ hP hS (lv_sub hl [] rfl)
set_option maxHeartbeats 4000000 in
set_option maxRecDepth 100000 in
theorem c_Tx_sameString_10 {E : (Nat → Prop) → State → Heap → Prop} {D : va_G} {ad kd sd vd xd : Nat → Nat} {ca : Nat → ClassId} (hE : o_EK E kd sd vd xd) (l : Launch) (n : Nat) (x1 : Int32) (x3 : Int32) (a0 : STx) (a2 : STx) (Sj : SSJ) (Rd : SRd) (Pg : SPg) (Pt : SPt) (Mk : SMk) (Lk : SLk) (Ck : SCk) (Jd : SJd) (Ld : SLd) (Pr : SPr) (rt : Nat) {r : Int32} (h : m_Tx_sameString n x1 x3 a0 a2 = some r) : o_Cn E l D o_cls (o_tys ca) y_Tx_sameString cc_Tx_sameString rm_Tx_sameString [.ref (ad 12), .int x1, .ref (ad 1), .int x3] (o_cw ad ca rt Sj a2 a0 Rd Pg Pt Mk Lk Ck Jd Ld Pr) (o_cw ad ca rt Sj a2 a0 Rd Pg Pt Mk Lk Ck Jd Ld Pr) (some (.int r)) := by
  refine o_Cn_of (by decide) (Nat.le_of_ble_eq_true rfl) ?_
  intro p e s m below meth c A ls C hD hP hS hl
  have hDD : ∀ (rt : Nat) (Sj : SSJ) (T0 : STx) (T1 : STx) (Rd : SRd) (Pg : SPg) (Pt : SPt) (Mk : SMk) (Lk : SLk) (Ck : SCk) (Jd : SJd) (Ld : SLd) (Pr : SPr), va_D A (o_cw ad ca rt Sj T0 T1 Rd Pg Pt Mk Lk Ck Jd Ld Pr) := fun _ _ _ _ _ _ _ _ _ _ _ _ _ => o_D_map hD rfl
  have hl : lv_has ls 8 [(0, .ref (ad 12)), (1, .int x1), (2, .ref (ad 1)), (3, .int x3)] := hl
  unfold m_Tx_sameString at h
  have C0 := C
  obtain ⟨hx, hb, -, -, -, hown, hts, hK, -, -⟩ := C0
  refine lv_iload_n hx hb d_Tx_sameString_0 rfl (lv_at hl 1 rfl) ?_
  refine lv_if_lt (tgt := 39) hx hb d_Tx_sameString_1 (by decide) (fun c1 => ?_) (fun c1 => ?_)
  · replace h := o_tt c1 h
    refine lv_iconst (v := (0:Int32)) hx hb d_Tx_sameString_39 (by decide) ?_
    cases h
    exact o_rz (v := (0:Int32)) C o_nar0 hP hS d_Tx_sameString_40
  · replace h := o_ff c1 h
    refine lv_iload_n hx hb d_Tx_sameString_4 rfl (lv_at hl 1 rfl) ?_
    refine lv_aload_n hx hb d_Tx_sameString_5 rfl (lv_at hl 0 rfl) ?_
    refine o_get (v := .int (Tx_total a0)) C in_Tx hP 12 cw_12 rfl 10 (by decide) k_1_56 rfl rfl d_Tx_sameString_6 ?_
    refine lv_icmp_ge (tgt := 39) hx hb d_Tx_sameString_9 (by decide) (fun c2 => ?_) (fun c2 => ?_)
    · replace h := o_tt c2 h
      refine lv_iconst (v := (0:Int32)) hx hb d_Tx_sameString_39 (by decide) ?_
      cases h
      exact o_rz (v := (0:Int32)) C o_nar0 hP hS d_Tx_sameString_40
    · replace h := o_ff c2 h
      refine lv_iload_n hx hb d_Tx_sameString_12 rfl (lv_at hl 3 rfl) ?_
      refine lv_if_lt (tgt := 39) hx hb d_Tx_sameString_13 (by decide) (fun c3 => ?_) (fun c3 => ?_)
      · replace h := o_tt c3 h
        refine lv_iconst (v := (0:Int32)) hx hb d_Tx_sameString_39 (by decide) ?_
        cases h
        exact o_rz (v := (0:Int32)) C o_nar0 hP hS d_Tx_sameString_40
      · replace h := o_ff c3 h
        refine lv_iload_n hx hb d_Tx_sameString_16 rfl (lv_at hl 3 rfl) ?_
        refine lv_aload_n hx hb d_Tx_sameString_17 rfl (lv_at hl 2 rfl) ?_
        refine o_get (v := .int (Tx_total a2)) C in_Tx hP 1 cw_1 rfl 10 (by decide) k_1_56 rfl rfl d_Tx_sameString_18 ?_
        refine lv_icmp_ge (tgt := 39) hx hb d_Tx_sameString_21 (by decide) (fun c4 => ?_) (fun c4 => ?_)
        · replace h := o_tt c4 h
          refine lv_iconst (v := (0:Int32)) hx hb d_Tx_sameString_39 (by decide) ?_
          cases h
          exact o_rz (v := (0:Int32)) C o_nar0 hP hS d_Tx_sameString_40
        · replace h := o_ff c4 h
          refine lv_aload_n hx hb d_Tx_sameString_24 rfl (lv_at hl 0 rfl) ?_
          refine o_get (v := .ref (ad 15)) C in_Tx hP 12 cw_12 rfl 2 (by decide) k_1_48 rfl rfl d_Tx_sameString_25 ?_
          refine lv_iload_n hx hb d_Tx_sameString_28 rfl (lv_at hl 1 rfl) ?_
          obtain ⟨g5, h⟩ := o_gd_some h
          refine o_iald (f := (Tx_sizes a0)) C hP 15 12 cw_15 rfl g5 d_Tx_sameString_29 ?_
          refine lv_aload_n hx hb d_Tx_sameString_30 rfl (lv_at hl 2 rfl) ?_
          refine o_get (v := .ref (ad 4)) C in_Tx hP 1 cw_1 rfl 2 (by decide) k_1_48 rfl rfl d_Tx_sameString_31 ?_
          refine lv_iload_n hx hb d_Tx_sameString_34 rfl (lv_at hl 3 rfl) ?_
          obtain ⟨g6, h⟩ := o_gd_some h
          refine o_iald (f := (Tx_sizes a2)) C hP 4 2 cw_4 rfl g6 d_Tx_sameString_35 ?_
          refine lv_icmp_eq (tgt := 41) hx hb d_Tx_sameString_36 (by decide) (fun c7 => ?_) (fun c7 => ?_)
          · replace h := o_tt c7 h
            refine lv_aload_n hx hb d_Tx_sameString_41 rfl (lv_at hl 0 rfl) ?_
            refine o_get (v := .ref (ad 18)) C in_Tx hP 12 cw_12 rfl 5 (by decide) k_1_51 rfl rfl d_Tx_sameString_42 ?_
            refine lv_iload_n hx hb d_Tx_sameString_45 rfl (lv_at hl 1 rfl) ?_
            obtain ⟨g8, h⟩ := o_gd_some h
            refine o_iald (f := (Tx_starts a0)) C hP 18 15 cw_18 rfl g8 d_Tx_sameString_46 ?_
            refine lv_topi (fun x4_47 ex4_47 => ?_)
            replace h := o_nm_at ex4_47 h
            refine lv_istore (lv' := [(4, .int x4_47), (0, .ref (ad 12)), (1, .int x1), (2, .ref (ad 1)), (3, .int x3)]) hx hb d_Tx_sameString_47 hl (by decide) rfl (fun ls hl => ?_)
            refine lv_aload_n hx hb d_Tx_sameString_49 rfl (lv_at hl 3 rfl) ?_
            refine o_get (v := .ref (ad 7)) C in_Tx hP 1 cw_1 rfl 5 (by decide) k_1_51 rfl rfl d_Tx_sameString_50 ?_
            refine lv_iload_n hx hb d_Tx_sameString_53 rfl (lv_at hl 4 rfl) ?_
            obtain ⟨g9, h⟩ := o_gd_some h
            refine o_iald (f := (Tx_starts a2)) C hP 7 5 cw_7 rfl g9 d_Tx_sameString_54 ?_
            refine lv_topi (fun x5_55 ex5_55 => ?_)
            replace h := o_nm_at ex5_55 h
            refine lv_istore (lv' := [(5, .int x5_55), (4, .int x4_47), (0, .ref (ad 12)), (1, .int x1), (2, .ref (ad 1)), (3, .int x3)]) hx hb d_Tx_sameString_55 hl (by decide) rfl (fun ls hl => ?_)
            refine lv_aload_n hx hb d_Tx_sameString_57 rfl (lv_at hl 2 rfl) ?_
            refine o_get (v := .ref (ad 15)) C in_Tx hP 12 cw_12 rfl 2 (by decide) k_1_48 rfl rfl d_Tx_sameString_58 ?_
            refine lv_iload_n hx hb d_Tx_sameString_61 rfl (lv_at hl 3 rfl) ?_
            obtain ⟨g10, h⟩ := o_gd_some h
            refine o_iald (f := (Tx_sizes a0)) C hP 15 12 cw_15 rfl g10 d_Tx_sameString_62 ?_
            refine lv_topi (fun x6_63 ex6_63 => ?_)
            replace h := o_nm_at ex6_63 h
            refine lv_istore (lv' := [(6, .int x6_63), (5, .int x5_55), (4, .int x4_47), (0, .ref (ad 12)), (1, .int x1), (2, .ref (ad 1)), (3, .int x3)]) hx hb d_Tx_sameString_63 hl (by decide) rfl (fun ls hl => ?_)
            refine lv_iload hx hb d_Tx_sameString_65 (lv_at hl 2 rfl) ?_
            refine lv_if_lt (tgt := 97) hx hb d_Tx_sameString_67 (by decide) (fun c11 => ?_) (fun c11 => ?_)
            · replace h := o_tt c11 h
              refine lv_iconst (v := (0:Int32)) hx hb d_Tx_sameString_97 (by decide) ?_
              cases h
              exact o_rz (v := (0:Int32)) C o_nar0 hP hS d_Tx_sameString_98
            · replace h := o_ff c11 h
              refine lv_iload hx hb d_Tx_sameString_70 (lv_at hl 2 rfl) ?_
              refine lv_iload hx hb d_Tx_sameString_72 (lv_at hl 0 rfl) ?_
              refine lv_iadd hx hb d_Tx_sameString_74 ?_
              refine lv_sipush (v := (8192:Int32)) hx hb d_Tx_sameString_75 (by decide) ?_
              refine lv_icmp_gt (tgt := 97) hx hb d_Tx_sameString_78 (by decide) (fun c12 => ?_) (fun c12 => ?_)
              · replace h := o_tt c12 h
                refine lv_iconst (v := (0:Int32)) hx hb d_Tx_sameString_97 (by decide) ?_
                cases h
                exact o_rz (v := (0:Int32)) C o_nar0 hP hS d_Tx_sameString_98
              · replace h := o_ff c12 h
                refine lv_iload hx hb d_Tx_sameString_81 (lv_at hl 1 rfl) ?_
                refine lv_if_lt (tgt := 97) hx hb d_Tx_sameString_83 (by decide) (fun c13 => ?_) (fun c13 => ?_)
                · replace h := o_tt c13 h
                  refine lv_iconst (v := (0:Int32)) hx hb d_Tx_sameString_97 (by decide) ?_
                  cases h
                  exact o_rz (v := (0:Int32)) C o_nar0 hP hS d_Tx_sameString_98
                · replace h := o_ff c13 h
                  refine lv_iload hx hb d_Tx_sameString_86 (lv_at hl 1 rfl) ?_
                  refine lv_iload hx hb d_Tx_sameString_88 (lv_at hl 0 rfl) ?_
                  refine lv_iadd hx hb d_Tx_sameString_90 ?_
                  refine lv_sipush (v := (8192:Int32)) hx hb d_Tx_sameString_91 (by decide) ?_
                  refine lv_icmp_le (tgt := 99) hx hb d_Tx_sameString_94 (by decide) (fun c14 => ?_) (fun c14 => ?_)
                  · replace h := o_tt c14 h
                    refine lv_iconst (v := (0:Int32)) hx hb d_Tx_sameString_99 (by decide) ?_
                    refine lv_istore (lv' := [(7, .int (0:Int32)), (6, .int x6_63), (5, .int x5_55), (4, .int x4_47), (0, .ref (ad 12)), (1, .int x1), (2, .ref (ad 1)), (3, .int x3)]) hx hb d_Tx_sameString_100 hl (by decide) rfl (fun ls hl => ?_)
                    obtain ⟨q1, hq1, h⟩ := o_bd_some h
                    refine o_sim2 (AH := fun zz => o_At p l e rm_Tx_sameString s m _ below meth c _ o_cls D A 8 102 [] (o_cw ad ca rt Sj a2 a0 Rd Pg Pt Mk Lk Ck Jd Ld Pr) [(0, .ref (ad 12)), (2, .ref (ad 1)), (4, .int x4_47), (5, .int x5_55), (6, .int x6_63), (7, .int zz)]) (AX := fun qq => if qq.1 = 1 then o_At p l e rm_Tx_sameString s m _ below meth c _ o_cls D A 8 132 [] (o_cw ad ca rt Sj a2 a0 Rd Pg Pt Mk Lk Ck Jd Ld Pr) [] else o_At p l e rm_Tx_sameString s m _ below meth c _ o_cls D A 8 140 [] (o_cw ad ca rt Sj a2 a0 Rd Pg Pt Mk Lk Ck Jd Ld Pr) []) (fun zz qq h h0 h1 => w_Tx_sameString_b102_10 hE C hDD n x4_47 x5_55 x6_63 a0 a2 Sj Rd Pg Pt Mk Lk Ck Jd Ld Pr rt zz qq h h0 h1) n _ q1 hq1 ?_ _ _ _ hP hS (lv_sub hl [4, 6, 3, 2, 1, 0] rfl)
                    by_cases c19 : q1.1 = 1
                    · replace h := o_tt c19 h
                      refine o_ip c19 ?_
                      intro H locs ls hP hS hl
                      refine lv_iconst (v := (0:Int32)) hx hb d_Tx_sameString_132 (by decide) ?_
                      cases h
                      exact o_rz (v := (0:Int32)) C o_nar0 hP hS d_Tx_sameString_133
                    replace h := o_ff c19 h
                    refine o_in_ c19 ?_
                    intro H locs ls hP hS hl
                    refine lv_iconst (v := (1:Int32)) hx hb d_Tx_sameString_140 (by decide) ?_
                    cases h
                    exact o_rz (v := (1:Int32)) C o_nar1 hP hS d_Tx_sameString_141
                  · replace h := o_ff c14 h
                    refine lv_iconst (v := (0:Int32)) hx hb d_Tx_sameString_97 (by decide) ?_
                    cases h
                    exact o_rz (v := (0:Int32)) C o_nar0 hP hS d_Tx_sameString_98
          · replace h := o_ff c7 h
            refine lv_iconst (v := (0:Int32)) hx hb d_Tx_sameString_39 (by decide) ?_
            cases h
            exact o_rz (v := (0:Int32)) C o_nar0 hP hS d_Tx_sameString_40
set_option maxHeartbeats 4000000 in
set_option maxRecDepth 100000 in
theorem w_Tx_member_b10_10 {E : (Nat → Prop) → State → Heap → Prop} {p : Program} {l : Launch} {e : Env} {s : State} {m : MethodId} {args : Array Value} {below : List Frame} {meth : Method} {c : Code} {D : va_G} {ad kd sd vd xd : Nat → Nat} {ca : Nat → ClassId} {A : Nat → Prop} {Q : State → Prop} (hE : o_EK E kd sd vd xd) (C : o_Cx E p s m args meth c D o_cls (o_tys ca) "SchemaJudge$Text" b_Tx_member (some .int) 6 cc_Tx_member A) (hDD : ∀ (rt : Nat) (Sj : SSJ) (T0 : STx) (T1 : STx) (Rd : SRd) (Pg : SPg) (Pt : SPt) (Mk : SMk) (Lk : SLk) (Ck : SCk) (Jd : SJd) (Ld : SLd) (Pr : SPr), va_D A (o_cw ad ca rt Sj T0 T1 Rd Pg Pt Mk Lk Ck Jd Ld Pr)) (n : Nat) (u10_x1 : Int32) (u10_x3 : Int32) (u10_a0 : STx) (u10_a2 : STx) (u10_Sj : SSJ) (u10_Rd : SRd) (u10_Pg : SPg) (u10_Pt : SPt) (u10_Mk : SMk) (u10_Lk : SLk) (u10_Ck : SCk) (u10_Jd : SJd) (u10_Ld : SLd) (u10_Pr : SPr) (u10_rt : Nat) (z : Int32 × Int32) (q : Nat × Int32 × Int32) (h : m_Tx_member_b10 n u10_x1 u10_x3 u10_a0 u10_a2 z = some q) (h0 : q.1 = 0 → o_At p l e rm_Tx_member s m args below meth c Q o_cls D A 6 10 [] (o_cw ad ca u10_rt u10_Sj u10_a2 u10_a0 u10_Rd u10_Pg u10_Pt u10_Mk u10_Lk u10_Ck u10_Jd u10_Ld u10_Pr) [(0, .ref (ad 12)), (1, .int u10_x1), (2, .ref (ad 1)), (3, .int u10_x3), (4, .int q.2.1), (5, .int q.2.2)]) (h1 : q.1 ≠ 0 → (if q.1 = 1 then o_At p l e rm_Tx_member s m args below meth c Q o_cls D A 6 33 [] (o_cw ad ca u10_rt u10_Sj u10_a2 u10_a0 u10_Rd u10_Pg u10_Pt u10_Mk u10_Lk u10_Ck u10_Jd u10_Ld u10_Pr) [(4, .int q.2.1)] else o_At p l e rm_Tx_member s m args below meth c Q o_cls D A 6 50 [] (o_cw ad ca u10_rt u10_Sj u10_a2 u10_a0 u10_Rd u10_Pg u10_Pt u10_Mk u10_Lk u10_Ck u10_Jd u10_Ld u10_Pr) [])) : o_At p l e rm_Tx_member s m args below meth c Q o_cls D A 6 10 [] (o_cw ad ca u10_rt u10_Sj u10_a2 u10_a0 u10_Rd u10_Pg u10_Pt u10_Mk u10_Lk u10_Ck u10_Jd u10_Ld u10_Pr) [(0, .ref (ad 12)), (1, .int u10_x1), (2, .ref (ad 1)), (3, .int u10_x3), (4, .int z.1), (5, .int z.2)] := by
  unfold m_Tx_member_b10 at h
  intro H locs ls hP hS hl
  have C0 := C
  obtain ⟨hx, hb, -, -, -, hown, hts, hK, -, -⟩ := C0
  refine lv_iload hx hb d_Tx_member_10 (lv_at hl 5 rfl) ?_
  refine lv_aload_n hx hb d_Tx_member_12 rfl (lv_at hl 0 rfl) ?_
  refine lv_iload_n hx hb d_Tx_member_13 rfl (lv_at hl 1 rfl) ?_
  obtain ⟨q2, hq2, h⟩ := o_bd_some h
  refine o_V (st1 := [.int q2, .int z.2]) (w1 := (o_cw ad ca u10_rt u10_Sj u10_a2 u10_a0 u10_Rd u10_Pg u10_Pt u10_Mk u10_Lk u10_Ck u10_Jd u10_Ld u10_Pr)) hE.1 C (c_Tx_size_1 hE l u10_x1 u10_a0 u10_Sj u10_a2 u10_Rd u10_Pg u10_Pt u10_Mk u10_Lk u10_Ck u10_Jd u10_Ld u10_Pr u10_rt hq2) hP (hDD _ _ _ _ _ _ _ _ _ _ _ _ _) hS hl.1 rfl cw_12 k_3_214 k_3_215 k_3_216 k_1_2 k_3_217 hv_Tx_size rfl rfl ⟨(Nat.le_of_ble_eq_true rfl), (Nat.le_of_ble_eq_true rfl)⟩ rfl (Nat.le_of_ble_eq_true rfl) ⟨Nat.zero_le _, Nat.zero_le _⟩ rfl d_Tx_member_14 (fun H locs hP hS => ?_)
  refine lv_icmp_ge (tgt := 50) hx hb d_Tx_member_17 (by decide) (fun c1 => ?_) (fun c1 => ?_)
  · replace h := o_tt c1 h
    cases h
    exact h1 (Nat.succ_ne_zero 1) _ _ _ hP hS (lv_sub hl [] rfl)
  · replace h := o_ff c1 h
    refine lv_aload_n hx hb d_Tx_member_20 rfl (lv_at hl 0 rfl) ?_
    refine lv_iload hx hb d_Tx_member_21 (lv_at hl 4 rfl) ?_
    refine lv_iconst (v := (1:Int32)) hx hb d_Tx_member_23 (by decide) ?_
    refine lv_isub hx hb d_Tx_member_24 ?_
    refine lv_aload_n hx hb d_Tx_member_25 rfl (lv_at hl 2 rfl) ?_
    refine lv_iload_n hx hb d_Tx_member_26 rfl (lv_at hl 3 rfl) ?_
    obtain ⟨q3, hq3, h⟩ := o_bd_some h
    refine o_S (st1 := [.int q3]) (w1 := (o_cw ad ca u10_rt u10_Sj u10_a2 u10_a0 u10_Rd u10_Pg u10_Pt u10_Mk u10_Lk u10_Ck u10_Jd u10_Ld u10_Pr)) hE.1 C (c_Tx_sameString_10 hE l n (z.1 - (1:Int32)) u10_x3 u10_a0 u10_a2 u10_Sj u10_Rd u10_Pg u10_Pt u10_Mk u10_Lk u10_Ck u10_Jd u10_Ld u10_Pr u10_rt hq3) hP (hDD _ _ _ _ _ _ _ _ _ _ _ _ _) hS hl.1 k_3_218 k_3_219 k_1_2 k_3_220 hs_Tx_sameString rfl rfl ⟨(Nat.le_of_ble_eq_true rfl), (Nat.le_of_ble_eq_true rfl)⟩ rfl (Nat.le_of_ble_eq_true rfl) ⟨Nat.zero_le _, Nat.zero_le _⟩ rfl d_Tx_member_27 (fun H locs hP hS => ?_)
    refine lv_if_eq (tgt := 36) hx hb d_Tx_member_30 (by decide) (fun c2 => ?_) (fun c2 => ?_)
    · replace h := o_tt c2 h
      refine lv_aload_n hx hb d_Tx_member_36 rfl (lv_at hl 0 rfl) ?_
      refine lv_iload hx hb d_Tx_member_37 (lv_at hl 4 rfl) ?_
      obtain ⟨q4, hq4, h⟩ := o_bd_some h
      refine o_V (st1 := [.int q4]) (w1 := (o_cw ad ca u10_rt u10_Sj u10_a2 u10_a0 u10_Rd u10_Pg u10_Pt u10_Mk u10_Lk u10_Ck u10_Jd u10_Ld u10_Pr)) hE.1 C (c_Tx_nextChild_1 hE l z.1 u10_a0 u10_Sj u10_a2 u10_Rd u10_Pg u10_Pt u10_Mk u10_Lk u10_Ck u10_Jd u10_Ld u10_Pr u10_rt hq4) hP (hDD _ _ _ _ _ _ _ _ _ _ _ _ _) hS hl.1 rfl cw_12 k_3_221 k_3_222 k_3_223 k_1_2 k_3_224 hv_Tx_nextChild rfl rfl ⟨(Nat.le_of_ble_eq_true rfl), (Nat.le_of_ble_eq_true rfl)⟩ rfl (Nat.le_of_ble_eq_true rfl) ⟨Nat.zero_le _, Nat.zero_le _⟩ rfl d_Tx_member_39 (fun H locs hP hS => ?_)
      refine lv_istore (lv' := [(4, .int q4), (0, .ref (ad 12)), (1, .int u10_x1), (2, .ref (ad 1)), (3, .int u10_x3), (5, .int z.2)]) hx hb d_Tx_member_42 hl (by decide) rfl (fun ls hl => ?_)
      obtain ⟨x5_44, ex5_44⟩ : ∃ y : Int32, y = z.2 + (1:Int32) := ⟨_, rfl⟩
      replace h := o_nm_at ex5_44 h
      refine lv_iinc (v := x5_44) (lv' := [(5, .int x5_44), (4, .int q4), (0, .ref (ad 12)), (1, .int u10_x1), (2, .ref (ad 1)), (3, .int u10_x3)]) hx hb d_Tx_member_44 hl (k := 5) rfl (by rw [ex5_44]; rfl) (by decide) rfl (fun ls hl => ?_)
      refine lv_goto (tgt := 10) hx hb d_Tx_member_47 (by decide) ?_
      cases h
      exact h0 rfl _ _ _ hP hS (lv_sub hl [2, 3, 4, 5, 1, 0] rfl)
    · replace h := o_ff c2 h
      cases h
      exact h1 (Nat.succ_ne_zero 0) _ _ _ hP hS (lv_sub hl [4] rfl)
set_option maxHeartbeats 4000000 in
set_option maxRecDepth 100000 in
theorem c_Tx_member_10 {E : (Nat → Prop) → State → Heap → Prop} {D : va_G} {ad kd sd vd xd : Nat → Nat} {ca : Nat → ClassId} (hE : o_EK E kd sd vd xd) (l : Launch) (n : Nat) (x1 : Int32) (x3 : Int32) (a0 : STx) (a2 : STx) (Sj : SSJ) (Rd : SRd) (Pg : SPg) (Pt : SPt) (Mk : SMk) (Lk : SLk) (Ck : SCk) (Jd : SJd) (Ld : SLd) (Pr : SPr) (rt : Nat) {r : Int32} (h : m_Tx_member n x1 x3 a0 a2 = some r) : o_Cn E l D o_cls (o_tys ca) y_Tx_member cc_Tx_member rm_Tx_member [.ref (ad 12), .int x1, .ref (ad 1), .int x3] (o_cw ad ca rt Sj a2 a0 Rd Pg Pt Mk Lk Ck Jd Ld Pr) (o_cw ad ca rt Sj a2 a0 Rd Pg Pt Mk Lk Ck Jd Ld Pr) (some (.int r)) := by
  refine o_Cn_of (by decide) (Nat.le_of_ble_eq_true rfl) ?_
  intro p e s m below meth c A ls C hD hP hS hl
  have hDD : ∀ (rt : Nat) (Sj : SSJ) (T0 : STx) (T1 : STx) (Rd : SRd) (Pg : SPg) (Pt : SPt) (Mk : SMk) (Lk : SLk) (Ck : SCk) (Jd : SJd) (Ld : SLd) (Pr : SPr), va_D A (o_cw ad ca rt Sj T0 T1 Rd Pg Pt Mk Lk Ck Jd Ld Pr) := fun _ _ _ _ _ _ _ _ _ _ _ _ _ => o_D_map hD rfl
  have hl : lv_has ls 6 [(0, .ref (ad 12)), (1, .int x1), (2, .ref (ad 1)), (3, .int x3)] := hl
  unfold m_Tx_member at h
  have C0 := C
  obtain ⟨hx, hb, -, -, -, hown, hts, hK, -, -⟩ := C0
  refine lv_aload_n hx hb d_Tx_member_0 rfl (lv_at hl 0 rfl) ?_
  refine lv_iload_n hx hb d_Tx_member_1 rfl (lv_at hl 1 rfl) ?_
  obtain ⟨q1, hq1, h⟩ := o_bd_some h
  refine o_V (st1 := [.int q1]) (w1 := (o_cw ad ca rt Sj a2 a0 Rd Pg Pt Mk Lk Ck Jd Ld Pr)) hE.1 C (c_Tx_firstChild_1 hE l x1 a0 Sj a2 Rd Pg Pt Mk Lk Ck Jd Ld Pr rt hq1) hP (hDD _ _ _ _ _ _ _ _ _ _ _ _ _) hS hl.1 rfl cw_12 k_3_210 k_3_211 k_3_212 k_1_2 k_3_213 hv_Tx_firstChild rfl rfl ⟨(Nat.le_of_ble_eq_true rfl), (Nat.le_of_ble_eq_true rfl)⟩ rfl (Nat.le_of_ble_eq_true rfl) ⟨Nat.zero_le _, Nat.zero_le _⟩ rfl d_Tx_member_2 (fun H locs hP hS => ?_)
  refine lv_istore (lv' := [(4, .int q1), (0, .ref (ad 12)), (1, .int x1), (2, .ref (ad 1)), (3, .int x3)]) hx hb d_Tx_member_5 hl (by decide) rfl (fun ls hl => ?_)
  refine lv_iconst (v := (0:Int32)) hx hb d_Tx_member_7 (by decide) ?_
  refine lv_istore (lv' := [(5, .int (0:Int32)), (4, .int q1), (0, .ref (ad 12)), (1, .int x1), (2, .ref (ad 1)), (3, .int x3)]) hx hb d_Tx_member_8 hl (by decide) rfl (fun ls hl => ?_)
  obtain ⟨q5, hq5, h⟩ := o_bd_some h
  refine o_sim2 (AH := fun zz => o_At p l e rm_Tx_member s m _ below meth c _ o_cls D A 6 10 [] (o_cw ad ca rt Sj a2 a0 Rd Pg Pt Mk Lk Ck Jd Ld Pr) [(0, .ref (ad 12)), (1, .int x1), (2, .ref (ad 1)), (3, .int x3), (4, .int zz.1), (5, .int zz.2)]) (AX := fun qq => if qq.1 = 1 then o_At p l e rm_Tx_member s m _ below meth c _ o_cls D A 6 33 [] (o_cw ad ca rt Sj a2 a0 Rd Pg Pt Mk Lk Ck Jd Ld Pr) [(4, .int qq.2.1)] else o_At p l e rm_Tx_member s m _ below meth c _ o_cls D A 6 50 [] (o_cw ad ca rt Sj a2 a0 Rd Pg Pt Mk Lk Ck Jd Ld Pr) []) (fun zz qq h h0 h1 => w_Tx_member_b10_10 hE C hDD n x1 x3 a0 a2 Sj Rd Pg Pt Mk Lk Ck Jd Ld Pr rt zz qq h h0 h1) n _ q5 hq5 ?_ _ _ _ hP hS (lv_sub hl [2, 3, 4, 5, 1, 0] rfl)
  by_cases c3 : q5.1 = 1
  · replace h := o_tt c3 h
    refine o_ip c3 ?_
    intro H locs ls hP hS hl
    refine lv_iload hx hb d_Tx_member_33 (lv_at hl 0 rfl) ?_
    cases h
    exact o_ri C hP hS d_Tx_member_35
  replace h := o_ff c3 h
  refine o_in_ c3 ?_
  intro H locs ls hP hS hl
  refine lv_iconst (v := (-1:Int32)) hx hb d_Tx_member_50 (by decide) ?_
  cases h
  exact o_ri (v := (-1:Int32)) C hP hS d_Tx_member_51
set_option maxHeartbeats 4000000 in
set_option maxRecDepth 100000 in
theorem w_Tx_element_b9_1 {E : (Nat → Prop) → State → Heap → Prop} {p : Program} {l : Launch} {e : Env} {s : State} {m : MethodId} {args : Array Value} {below : List Frame} {meth : Method} {c : Code} {D : va_G} {ad kd sd vd xd : Nat → Nat} {ca : Nat → ClassId} {A : Nat → Prop} {Q : State → Prop} (hE : o_EK E kd sd vd xd) (C : o_Cx E p s m args meth c D o_cls (o_tys ca) "SchemaJudge$Text" b_Tx_element (some .int) 5 cc_Tx_element A) (hDD : ∀ (rt : Nat) (Sj : SSJ) (T0 : STx) (T1 : STx) (Rd : SRd) (Pg : SPg) (Pt : SPt) (Mk : SMk) (Lk : SLk) (Ck : SCk) (Jd : SJd) (Ld : SLd) (Pr : SPr), va_D A (o_cw ad ca rt Sj T0 T1 Rd Pg Pt Mk Lk Ck Jd Ld Pr)) (n : Nat) (u9_x2 : Int32) (u9_a0 : STx) (u9_Sj : SSJ) (u9_T0 : STx) (u9_Rd : SRd) (u9_Pg : SPg) (u9_Pt : SPt) (u9_Mk : SMk) (u9_Lk : SLk) (u9_Ck : SCk) (u9_Jd : SJd) (u9_Ld : SLd) (u9_Pr : SPr) (u9_rt : Nat) (z : Int32 × Int32) (q : Nat × Int32 × Int32) (h : m_Tx_element_b9 n u9_x2 u9_a0 z = some q) (h0 : q.1 = 0 → o_At p l e rm_Tx_element s m args below meth c Q o_cls D A 5 9 [] (o_cw ad ca u9_rt u9_Sj u9_T0 u9_a0 u9_Rd u9_Pg u9_Pt u9_Mk u9_Lk u9_Ck u9_Jd u9_Ld u9_Pr) [(0, .ref (ad 12)), (2, .int u9_x2), (3, .int q.2.1), (4, .int q.2.2)]) (h1 : q.1 ≠ 0 → (o_At p l e rm_Tx_element s m args below meth c Q o_cls D A 5 32 [] (o_cw ad ca u9_rt u9_Sj u9_T0 u9_a0 u9_Rd u9_Pg u9_Pt u9_Mk u9_Lk u9_Ck u9_Jd u9_Ld u9_Pr) [(3, .int q.2.1)])) : o_At p l e rm_Tx_element s m args below meth c Q o_cls D A 5 9 [] (o_cw ad ca u9_rt u9_Sj u9_T0 u9_a0 u9_Rd u9_Pg u9_Pt u9_Mk u9_Lk u9_Ck u9_Jd u9_Ld u9_Pr) [(0, .ref (ad 12)), (2, .int u9_x2), (3, .int z.1), (4, .int z.2)] := by
  unfold m_Tx_element_b9 at h
  intro H locs ls hP hS hl
  have C0 := C
  obtain ⟨hx, hb, -, -, -, hown, hts, hK, -, -⟩ := C0
  refine lv_iload hx hb d_Tx_element_9 (lv_at hl 3 rfl) ?_
  refine lv_iload_n hx hb d_Tx_element_11 rfl (lv_at hl 1 rfl) ?_
  refine lv_icmp_ge (tgt := 32) hx hb d_Tx_element_12 (by decide) (fun c1 => ?_) (fun c1 => ?_)
  · replace h := o_tt c1 h
    cases h
    exact h1 (Nat.succ_ne_zero 0) _ _ _ hP hS (lv_sub hl [2] rfl)
  · replace h := o_ff c1 h
    refine lv_iload_n hx hb d_Tx_element_15 rfl (lv_at hl 2 rfl) ?_
    refine lv_iconst (v := (-1:Int32)) hx hb d_Tx_element_16 (by decide) ?_
    refine lv_icmp_eq (tgt := 32) hx hb d_Tx_element_17 (by decide) (fun c2 => ?_) (fun c2 => ?_)
    · replace h := o_tt c2 h
      cases h
      exact h1 (Nat.succ_ne_zero 0) _ _ _ hP hS (lv_sub hl [2] rfl)
    · replace h := o_ff c2 h
      refine lv_aload_n hx hb d_Tx_element_20 rfl (lv_at hl 0 rfl) ?_
      refine lv_iload_n hx hb d_Tx_element_21 rfl (lv_at hl 2 rfl) ?_
      obtain ⟨q2, hq2, h⟩ := o_bd_some h
      refine o_V (st1 := [.int q2]) (w1 := (o_cw ad ca u9_rt u9_Sj u9_T0 u9_a0 u9_Rd u9_Pg u9_Pt u9_Mk u9_Lk u9_Ck u9_Jd u9_Ld u9_Pr)) hE.1 C (c_Tx_nextChild_1 hE l z.1 u9_a0 u9_Sj u9_T0 u9_Rd u9_Pg u9_Pt u9_Mk u9_Lk u9_Ck u9_Jd u9_Ld u9_Pr u9_rt hq2) hP (hDD _ _ _ _ _ _ _ _ _ _ _ _ _) hS hl.1 rfl cw_12 k_3_221 k_3_222 k_3_223 k_1_2 k_3_224 hv_Tx_nextChild rfl rfl ⟨(Nat.le_of_ble_eq_true rfl), (Nat.le_of_ble_eq_true rfl)⟩ rfl (Nat.le_of_ble_eq_true rfl) ⟨Nat.zero_le _, Nat.zero_le _⟩ rfl d_Tx_element_22 (fun H locs hP hS => ?_)
      refine lv_istore_n (lv' := [(3, .int q2), (0, .ref (ad 12)), (2, .int u9_x2), (4, .int z.2)]) hx hb d_Tx_element_25 rfl hl (by decide) rfl (fun ls hl => ?_)
      obtain ⟨x4_26, ex4_26⟩ : ∃ y : Int32, y = z.2 + (1:Int32) := ⟨_, rfl⟩
      replace h := o_nm_at ex4_26 h
      refine lv_iinc (v := x4_26) (lv' := [(4, .int x4_26), (3, .int q2), (0, .ref (ad 12)), (2, .int u9_x2)]) hx hb d_Tx_element_26 hl (k := 3) rfl (by rw [ex4_26]; rfl) (by decide) rfl (fun ls hl => ?_)
      refine lv_goto (tgt := 9) hx hb d_Tx_element_29 (by decide) ?_
      cases h
      exact h0 rfl _ _ _ hP hS (lv_sub hl [2, 3, 1, 0] rfl)
set_option maxHeartbeats 4000000 in
set_option maxRecDepth 100000 in
theorem c_Tx_element_1 {E : (Nat → Prop) → State → Heap → Prop} {D : va_G} {ad kd sd vd xd : Nat → Nat} {ca : Nat → ClassId} (hE : o_EK E kd sd vd xd) (l : Launch) (n : Nat) (x1 : Int32) (x2 : Int32) (a0 : STx) (Sj : SSJ) (T0 : STx) (Rd : SRd) (Pg : SPg) (Pt : SPt) (Mk : SMk) (Lk : SLk) (Ck : SCk) (Jd : SJd) (Ld : SLd) (Pr : SPr) (rt : Nat) {r : Int32} (h : m_Tx_element n x1 x2 a0 = some r) : o_Cn E l D o_cls (o_tys ca) y_Tx_element cc_Tx_element rm_Tx_element [.ref (ad 12), .int x1, .int x2] (o_cw ad ca rt Sj T0 a0 Rd Pg Pt Mk Lk Ck Jd Ld Pr) (o_cw ad ca rt Sj T0 a0 Rd Pg Pt Mk Lk Ck Jd Ld Pr) (some (.int r)) := by
  refine o_Cn_of (by decide) (Nat.le_of_ble_eq_true rfl) ?_
  intro p e s m below meth c A ls C hD hP hS hl
  have hDD : ∀ (rt : Nat) (Sj : SSJ) (T0 : STx) (T1 : STx) (Rd : SRd) (Pg : SPg) (Pt : SPt) (Mk : SMk) (Lk : SLk) (Ck : SCk) (Jd : SJd) (Ld : SLd) (Pr : SPr), va_D A (o_cw ad ca rt Sj T0 T1 Rd Pg Pt Mk Lk Ck Jd Ld Pr) := fun _ _ _ _ _ _ _ _ _ _ _ _ _ => o_D_map hD rfl
  have hl : lv_has ls 5 [(0, .ref (ad 12)), (1, .int x1), (2, .int x2)] := hl
  unfold m_Tx_element at h
  have C0 := C
  obtain ⟨hx, hb, -, -, -, hown, hts, hK, -, -⟩ := C0
  refine lv_aload_n hx hb d_Tx_element_0 rfl (lv_at hl 0 rfl) ?_
  refine lv_iload_n hx hb d_Tx_element_1 rfl (lv_at hl 1 rfl) ?_
  obtain ⟨q1, hq1, h⟩ := o_bd_some h
  refine o_V (st1 := [.int q1]) (w1 := (o_cw ad ca rt Sj T0 a0 Rd Pg Pt Mk Lk Ck Jd Ld Pr)) hE.1 C (c_Tx_firstChild_1 hE l x1 a0 Sj T0 Rd Pg Pt Mk Lk Ck Jd Ld Pr rt hq1) hP (hDD _ _ _ _ _ _ _ _ _ _ _ _ _) hS hl.1 rfl cw_12 k_3_210 k_3_211 k_3_212 k_1_2 k_3_213 hv_Tx_firstChild rfl rfl ⟨(Nat.le_of_ble_eq_true rfl), (Nat.le_of_ble_eq_true rfl)⟩ rfl (Nat.le_of_ble_eq_true rfl) ⟨Nat.zero_le _, Nat.zero_le _⟩ rfl d_Tx_element_2 (fun H locs hP hS => ?_)
  refine lv_istore_n (lv' := [(3, .int q1), (0, .ref (ad 12)), (1, .int x1), (2, .int x2)]) hx hb d_Tx_element_5 rfl hl (by decide) rfl (fun ls hl => ?_)
  refine lv_iconst (v := (0:Int32)) hx hb d_Tx_element_6 (by decide) ?_
  refine lv_istore (lv' := [(4, .int (0:Int32)), (3, .int q1), (0, .ref (ad 12)), (1, .int x1), (2, .int x2)]) hx hb d_Tx_element_7 hl (by decide) rfl (fun ls hl => ?_)
  obtain ⟨q3, hq3, h⟩ := o_bd_some h
  refine o_sim2 (AH := fun zz => o_At p l e rm_Tx_element s m _ below meth c _ o_cls D A 5 9 [] (o_cw ad ca rt Sj T0 a0 Rd Pg Pt Mk Lk Ck Jd Ld Pr) [(0, .ref (ad 12)), (2, .int x2), (3, .int zz.1), (4, .int zz.2)]) (AX := fun qq => o_At p l e rm_Tx_element s m _ below meth c _ o_cls D A 5 32 [] (o_cw ad ca rt Sj T0 a0 Rd Pg Pt Mk Lk Ck Jd Ld Pr) [(3, .int qq.2.1)]) (fun zz qq h h0 h1 => w_Tx_element_b9_1 hE C hDD n x2 a0 Sj T0 Rd Pg Pt Mk Lk Ck Jd Ld Pr rt zz qq h h0 h1) n _ q3 hq3 ?_ _ _ _ hP hS (lv_sub hl [2, 4, 1, 0] rfl)
  intro H locs ls hP hS hl
  refine lv_iload_n hx hb d_Tx_element_32 rfl (lv_at hl 0 rfl) ?_
  cases h
  exact o_ri C hP hS d_Tx_element_33
set_option maxHeartbeats 4000000 in
set_option maxRecDepth 100000 in
theorem c_Jd_firstTarget {E : (Nat → Prop) → State → Heap → Prop} {D : va_G} {ad kd sd vd xd : Nat → Nat} {ca : Nat → ClassId} (hE : o_EK E kd sd vd xd) (l : Launch) (n : Nat) (x1 : Nat) (gx1 : o_kb x1 = true) (x2 : Int32) (x3 : Int32) (T0 : STx) (T1 : STx) (Sj : SSJ) (Rd : SRd) (Pg : SPg) (Pt : SPt) (Mk : SMk) (Lk : SLk) (Ck : SCk) (Jd : SJd) (Ld : SLd) (Pr : SPr) (rt : Nat) {r : Int32} (h : m_Jd_firstTarget n x1 x2 x3 T0 T1 = some r) : o_Cn E l D o_cls (o_tys ca) y_Jd_firstTarget cc_Jd_firstTarget rm_Jd_firstTarget [.ref (ad 49), .ref (kd x1), .int x2, .int x3] (o_cw ad ca rt Sj T0 T1 Rd Pg Pt Mk Lk Ck Jd Ld Pr) (o_cw ad ca rt Sj T0 T1 Rd Pg Pt Mk Lk Ck Jd Ld Pr) (some (.int r)) := by
  refine o_Cn_of (by decide) (Nat.le_of_ble_eq_true rfl) ?_
  intro p e s m below meth c A ls C hD hP hS hl
  have hDD : ∀ (rt : Nat) (Sj : SSJ) (T0 : STx) (T1 : STx) (Rd : SRd) (Pg : SPg) (Pt : SPt) (Mk : SMk) (Lk : SLk) (Ck : SCk) (Jd : SJd) (Ld : SLd) (Pr : SPr), va_D A (o_cw ad ca rt Sj T0 T1 Rd Pg Pt Mk Lk Ck Jd Ld Pr) := fun _ _ _ _ _ _ _ _ _ _ _ _ _ => o_D_map hD rfl
  have hl : lv_has ls 4 [(0, .ref (ad 49)), (1, .ref (kd x1)), (2, .int x2), (3, .int x3)] := hl
  unfold m_Jd_firstTarget at h
  have C0 := C
  obtain ⟨hx, hb, -, -, -, hown, hts, hK, -, -⟩ := C0
  refine va_gets (v := .ref (xd 1)) hx hb (hE.2.2.2.2.1 _ _ _ C.2.2.2.2.2.2.2.2.2).1 hS hown (hts _ k_6_62) (fun _ h9 => h9) d_Jd_firstTarget_0 ?_
  refine lv_aload_n hx hb d_Jd_firstTarget_3 rfl (lv_at hl 1 rfl) ?_
  refine o_ord (st1 := [.int (nI x1), .ref (xd 1)]) hE C gx1 hP (hDD _ _ _ _ _ _ _ _ _ _ _ _ _) hS hl.1 k_6_64 (Nat.le_of_ble_eq_true rfl) (Nat.le_of_ble_eq_true rfl) rfl (Nat.le_of_ble_eq_true rfl) d_Jd_firstTarget_4 (fun H locs hP hS => ?_)
  obtain ⟨g1, h⟩ := o_gd_some h
  refine va_ti (v := .int (sw_Keyword (nI x1).toNatClampNeg)) hx hb (hE.2.2.2.2.1 _ _ _ C.2.2.2.2.2.2.2.2.2).2 hS (o_in_in g1) rfl d_Jd_firstTarget_7 ?_
  refine lv_topi (fun w8 ew8 => ?_)
  replace h := o_nm_at ew8 h
  by_cases c2 : w8 = (1:Int32)
  · replace h := o_tt c2 h
    refine lv_tableIn (off := 28) (tgt := 36) hx hb d_Jd_firstTarget_8 (by rw [c2]; decide) (by rw [c2]; decide) (by rw [c2]; rfl) (by decide) ?_
    refine lv_aload_n hx hb d_Jd_firstTarget_36 rfl (lv_at hl 0 rfl) ?_
    refine o_get (v := .ref (ad 12)) C in_Jd hP 49 cw_49 rfl 2 (by decide) k_2_76 rfl rfl d_Jd_firstTarget_37 ?_
    refine lv_iload_n hx hb d_Jd_firstTarget_40 rfl (lv_at hl 3 rfl) ?_
    refine lv_aload_n hx hb d_Jd_firstTarget_41 rfl (lv_at hl 0 rfl) ?_
    refine o_get (v := .ref (ad 1)) C in_Jd hP 49 cw_49 rfl 0 (by decide) k_2_74 rfl rfl d_Jd_firstTarget_42 ?_
    refine lv_iload_n hx hb d_Jd_firstTarget_45 rfl (lv_at hl 2 rfl) ?_
    refine lv_iconst (v := (1:Int32)) hx hb d_Jd_firstTarget_46 (by decide) ?_
    refine lv_isub hx hb d_Jd_firstTarget_47 ?_
    obtain ⟨q1, hq1, h⟩ := o_bd_some h
    refine o_V (st1 := [.int q1]) (w1 := (o_cw ad ca rt Sj T0 T1 Rd Pg Pt Mk Lk Ck Jd Ld Pr)) hE.1 C (c_Tx_member_10 hE l n x3 (x2 - (1:Int32)) T1 T0 Sj Rd Pg Pt Mk Lk Ck Jd Ld Pr rt hq1) hP (hDD _ _ _ _ _ _ _ _ _ _ _ _ _) hS hl.1 rfl cw_12 k_6_118 k_3_207 k_3_208 k_1_2 k_3_209 hv_Tx_member rfl rfl ⟨(Nat.le_of_ble_eq_true rfl), (Nat.le_of_ble_eq_true rfl)⟩ rfl (Nat.le_of_ble_eq_true rfl) ⟨Nat.zero_le _, Nat.zero_le _⟩ rfl d_Jd_firstTarget_48 (fun H locs hP hS => ?_)
    cases h
    exact o_ri C hP hS d_Jd_firstTarget_51
  replace h := o_ff c2 h
  by_cases c3 : w8 = (2:Int32)
  · replace h := o_tt c3 h
    refine lv_tableIn (off := 44) (tgt := 52) hx hb d_Jd_firstTarget_8 (by rw [c3]; decide) (by rw [c3]; decide) (by rw [c3]; rfl) (by decide) ?_
    refine lv_aload_n hx hb d_Jd_firstTarget_52 rfl (lv_at hl 0 rfl) ?_
    refine o_get (v := .ref (ad 12)) C in_Jd hP 49 cw_49 rfl 2 (by decide) k_2_76 rfl rfl d_Jd_firstTarget_53 ?_
    refine lv_iload_n hx hb d_Jd_firstTarget_56 rfl (lv_at hl 3 rfl) ?_
    refine lv_aload_n hx hb d_Jd_firstTarget_57 rfl (lv_at hl 0 rfl) ?_
    refine o_get (v := .ref (ad 1)) C in_Jd hP 49 cw_49 rfl 0 (by decide) k_2_74 rfl rfl d_Jd_firstTarget_58 ?_
    refine lv_iload_n hx hb d_Jd_firstTarget_61 rfl (lv_at hl 2 rfl) ?_
    obtain ⟨q2, hq2, h⟩ := o_bd_some h
    refine o_V (st1 := [.int q2, .int x3, .ref (ad 12)]) (w1 := (o_cw ad ca rt Sj T0 T1 Rd Pg Pt Mk Lk Ck Jd Ld Pr)) hE.1 C (c_Tx_slot_0 hE l x2 T0 Sj T1 Rd Pg Pt Mk Lk Ck Jd Ld Pr rt hq2) hP (hDD _ _ _ _ _ _ _ _ _ _ _ _ _) hS hl.1 rfl cw_1 k_6_124 k_5_106 k_5_107 k_1_2 k_5_108 hv_Tx_slot rfl rfl ⟨(Nat.le_of_ble_eq_true rfl), (Nat.le_of_ble_eq_true rfl)⟩ rfl (Nat.le_of_ble_eq_true rfl) ⟨Nat.zero_le _, Nat.zero_le _⟩ rfl d_Jd_firstTarget_62 (fun H locs hP hS => ?_)
    obtain ⟨q3, hq3, h⟩ := o_bd_some h
    refine o_V (st1 := [.int q3]) (w1 := (o_cw ad ca rt Sj T0 T1 Rd Pg Pt Mk Lk Ck Jd Ld Pr)) hE.1 C (c_Tx_element_1 hE l n x3 q2 T1 Sj T0 Rd Pg Pt Mk Lk Ck Jd Ld Pr rt hq3) hP (hDD _ _ _ _ _ _ _ _ _ _ _ _ _) hS hl.1 rfl cw_12 k_6_125 k_5_179 k_5_180 k_1_2 k_5_181 hv_Tx_element rfl rfl ⟨(Nat.le_of_ble_eq_true rfl), (Nat.le_of_ble_eq_true rfl)⟩ rfl (Nat.le_of_ble_eq_true rfl) ⟨Nat.zero_le _, Nat.zero_le _⟩ rfl d_Jd_firstTarget_65 (fun H locs hP hS => ?_)
    cases h
    exact o_ri C hP hS d_Jd_firstTarget_68
  replace h := o_ff c3 h
  by_cases c4 : w8 = (3:Int32)
  · replace h := o_tt c4 h
    refine lv_tableIn (off := 61) (tgt := 69) hx hb d_Jd_firstTarget_8 (by rw [c4]; decide) (by rw [c4]; decide) (by rw [c4]; rfl) (by decide) ?_
    refine lv_aload_n hx hb d_Jd_firstTarget_69 rfl (lv_at hl 0 rfl) ?_
    refine o_get (v := .ref (ad 12)) C in_Jd hP 49 cw_49 rfl 2 (by decide) k_2_76 rfl rfl d_Jd_firstTarget_70 ?_
    refine lv_iload_n hx hb d_Jd_firstTarget_73 rfl (lv_at hl 3 rfl) ?_
    refine lv_aload_n hx hb d_Jd_firstTarget_74 rfl (lv_at hl 0 rfl) ?_
    refine o_get (v := .ref (ad 1)) C in_Jd hP 49 cw_49 rfl 0 (by decide) k_2_74 rfl rfl d_Jd_firstTarget_75 ?_
    refine lv_iload_n hx hb d_Jd_firstTarget_78 rfl (lv_at hl 2 rfl) ?_
    refine lv_iconst (v := (1:Int32)) hx hb d_Jd_firstTarget_79 (by decide) ?_
    refine lv_isub hx hb d_Jd_firstTarget_80 ?_
    obtain ⟨q4, hq4, h⟩ := o_bd_some h
    refine o_V (st1 := [.int q4]) (w1 := (o_cw ad ca rt Sj T0 T1 Rd Pg Pt Mk Lk Ck Jd Ld Pr)) hE.1 C (c_Tx_member_10 hE l n x3 (x2 - (1:Int32)) T1 T0 Sj Rd Pg Pt Mk Lk Ck Jd Ld Pr rt hq4) hP (hDD _ _ _ _ _ _ _ _ _ _ _ _ _) hS hl.1 rfl cw_12 k_6_118 k_3_207 k_3_208 k_1_2 k_3_209 hv_Tx_member rfl rfl ⟨(Nat.le_of_ble_eq_true rfl), (Nat.le_of_ble_eq_true rfl)⟩ rfl (Nat.le_of_ble_eq_true rfl) ⟨Nat.zero_le _, Nat.zero_le _⟩ rfl d_Jd_firstTarget_81 (fun H locs hP hS => ?_)
    refine lv_iconst (v := (-1:Int32)) hx hb d_Jd_firstTarget_84 (by decide) ?_
    refine lv_icmp_ne (tgt := 92) hx hb d_Jd_firstTarget_85 (by decide) (fun c5 => ?_) (fun c5 => ?_)
    · replace h := o_ff c5 h
      refine lv_iload_n hx hb d_Jd_firstTarget_92 rfl (lv_at hl 3 rfl) ?_
      cases h
      exact o_ri C hP hS d_Jd_firstTarget_93
    · replace h := o_tt c5 h
      refine lv_iconst (v := (-1:Int32)) hx hb d_Jd_firstTarget_88 (by decide) ?_
      refine lv_goto (tgt := 93) hx hb d_Jd_firstTarget_89 (by decide) ?_
      cases h
      exact o_ri (v := (-1:Int32)) C hP hS d_Jd_firstTarget_93
  replace h := o_ff c4 h
  refine lv_tableOut (tgt := 94) hx hb d_Jd_firstTarget_8 (by have ec2 := o_ne_i (n := 1) (by decide) c2; have ec3 := o_ne_i (n := 2) (by decide) c3; have ec4 := o_ne_i (n := 3) (by decide) c4; omega) (by decide) ?_
  refine lv_aload_n hx hb d_Jd_firstTarget_94 rfl (lv_at hl 1 rfl) ?_
  refine o_gkN (fi := 3) (v := (kw_reach x1)) hE C gx1 hS rfl rfl nw_25 d_Jd_firstTarget_95 ?_
  refine lv_iconst (v := (4:Int32)) hx hb d_Jd_firstTarget_98 (by decide) ?_
  refine lv_icmp_ne (tgt := 113) hx hb d_Jd_firstTarget_99 (by decide) (fun c6 => ?_) (fun c6 => ?_)
  · replace h := o_ff c6 h
    refine lv_iload_n hx hb d_Jd_firstTarget_113 rfl (lv_at hl 3 rfl) ?_
    cases h
    exact o_ri C hP hS d_Jd_firstTarget_114
  · replace h := o_tt c6 h
    refine lv_aload_n hx hb d_Jd_firstTarget_102 rfl (lv_at hl 0 rfl) ?_
    refine o_get (v := .ref (ad 12)) C in_Jd hP 49 cw_49 rfl 2 (by decide) k_2_76 rfl rfl d_Jd_firstTarget_103 ?_
    refine lv_iload_n hx hb d_Jd_firstTarget_106 rfl (lv_at hl 3 rfl) ?_
    obtain ⟨q5, hq5, h⟩ := o_bd_some h
    refine o_V (st1 := [.int q5]) (w1 := (o_cw ad ca rt Sj T0 T1 Rd Pg Pt Mk Lk Ck Jd Ld Pr)) hE.1 C (c_Tx_firstChild_1 hE l x3 T1 Sj T0 Rd Pg Pt Mk Lk Ck Jd Ld Pr rt hq5) hP (hDD _ _ _ _ _ _ _ _ _ _ _ _ _) hS hl.1 rfl cw_12 k_6_25 k_3_211 k_3_212 k_1_2 k_3_213 hv_Tx_firstChild rfl rfl ⟨(Nat.le_of_ble_eq_true rfl), (Nat.le_of_ble_eq_true rfl)⟩ rfl (Nat.le_of_ble_eq_true rfl) ⟨Nat.zero_le _, Nat.zero_le _⟩ rfl d_Jd_firstTarget_107 (fun H locs hP hS => ?_)
    refine lv_goto (tgt := 114) hx hb d_Jd_firstTarget_110 (by decide) ?_
    cases h
    exact o_ri C hP hS d_Jd_firstTarget_114
set_option maxHeartbeats 4000000 in
set_option maxRecDepth 100000 in
theorem w_Jd_remember_j81 {E : (Nat → Prop) → State → Heap → Prop} {p : Program} {l : Launch} {e : Env} {s : State} {m : MethodId} {args : Array Value} {below : List Frame} {meth : Method} {c : Code} {D : va_G} {ad kd sd vd xd : Nat → Nat} {ca : Nat → ClassId} {A : Nat → Prop} (hE : o_EK E kd sd vd xd) (C : o_Cx E p s m args meth c D o_cls (o_tys ca) "SchemaJudge$Judge" b_Jd_remember none 5 cc_Jd_remember A) (hDD : ∀ (rt : Nat) (Sj : SSJ) (T0 : STx) (T1 : STx) (Rd : SRd) (Pg : SPg) (Pt : SPt) (Mk : SMk) (Lk : SLk) (Ck : SCk) (Jd : SJd) (Ld : SLd) (Pr : SPr), va_D A (o_cw ad ca rt Sj T0 T1 Rd Pg Pt Mk Lk Ck Jd Ld Pr)) (x3 : Int32) (x4 : Int32) (Jd : SJd) (Sj : SSJ) (T0 : STx) (T1 : STx) (Rd : SRd) (Pg : SPg) (Pt : SPt) (Mk : SMk) (Lk : SLk) (Ck : SCk) (Ld : SLd) (Pr : SPr) (rt : Nat) {r : SJd} (h : m_Jd_remember_j81 x3 x4 Jd = some r) : o_At p l e rm_Jd_remember s m args below meth c (MQ below (o_Qx D o_cls none (o_cw ad ca rt Sj T0 T1 Rd Pg Pt Mk Lk Ck r Ld Pr) A) args s 0 0 A) o_cls D A 5 81 [] (o_cw ad ca rt Sj T0 T1 Rd Pg Pt Mk Lk Ck Jd Ld Pr) [(0, .ref (ad 49)), (3, .int x3), (4, .int x4)] := by
  unfold m_Jd_remember_j81 at h
  intro H locs ls hP hS hl
  have C0 := C
  obtain ⟨hx, hb, -, -, -, hown, hts, hK, -, -⟩ := C0
  refine lv_aload_n hx hb d_Jd_remember_81 rfl (lv_at hl 0 rfl) ?_
  refine o_get (v := .ref (ad 50)) C in_Jd hP 49 cw_49 rfl 7 (by decide) k_2_81 rfl rfl d_Jd_remember_82 ?_
  refine lv_iload hx hb d_Jd_remember_85 (lv_at hl 2 rfl) ?_
  refine lv_dup2_11 hx hb d_Jd_remember_87 rfl rfl ?_
  obtain ⟨g6, h⟩ := o_gd_some h
  refine o_lald (f := (Jd_evaluated Jd)) C hP 50 40 cw_50 rfl g6 d_Jd_remember_88 ?_
  refine lv_lconst (v := (1:Int64)) hx hb d_Jd_remember_89 (by decide) ?_
  refine lv_iload_n hx hb d_Jd_remember_90 rfl (lv_at hl 1 rfl) ?_
  refine lv_lshl hx hb d_Jd_remember_91 rfl ?_
  refine lv_lor hx hb d_Jd_remember_92 ?_
  obtain ⟨g7, h⟩ := o_gd_some h
  refine o_last (f := (Jd_evaluated Jd)) (w1 := (o_cw ad ca rt Sj T0 T1 Rd Pg Pt Mk Lk Ck (Jd_mk (vp_updL (Jd_evaluated Jd) x4.toNatClampNeg (((Jd_evaluated Jd) x4.toNatClampNeg) ||| ((1:Int64) <<< (x3.toInt64 &&& 63)))) (Jd_silences Jd) (Jd_over Jd) (Jd_schemas Jd) (Jd_deepest Jd)) Ld Pr)) C hP (hDD _ _ _ _ _ _ _ _ _ _ _ _ _) hS 50 40 cw_50 rfl g7 rfl d_Jd_remember_93 (fun H locs hP hS => ?_)
  cases h
  exact o_rv C hP hS d_Jd_remember_94
set_option maxHeartbeats 4000000 in
set_option maxRecDepth 100000 in
theorem c_Jd_remember {E : (Nat → Prop) → State → Heap → Prop} {D : va_G} {ad kd sd vd xd : Nat → Nat} {ca : Nat → ClassId} (hE : o_EK E kd sd vd xd) (l : Launch) (x1 : Nat) (gx1 : o_kb x1 = true) (x2 : Int32) (x3 : Int32) (x4 : Int32) (Jd : SJd) (Sj : SSJ) (T0 : STx) (T1 : STx) (Rd : SRd) (Pg : SPg) (Pt : SPt) (Mk : SMk) (Lk : SLk) (Ck : SCk) (Ld : SLd) (Pr : SPr) (rt : Nat) {r : SJd} (h : m_Jd_remember x1 x2 x3 x4 Jd = some r) : o_Cn E l D o_cls (o_tys ca) y_Jd_remember cc_Jd_remember rm_Jd_remember [.ref (ad 49), .ref (kd x1), .int x2, .int x3, .int x4] (o_cw ad ca rt Sj T0 T1 Rd Pg Pt Mk Lk Ck Jd Ld Pr) (o_cw ad ca rt Sj T0 T1 Rd Pg Pt Mk Lk Ck r Ld Pr) none := by
  refine o_Cn_of (by decide) (Nat.le_of_ble_eq_true rfl) ?_
  intro p e s m below meth c A ls C hD hP hS hl
  have hDD : ∀ (rt : Nat) (Sj : SSJ) (T0 : STx) (T1 : STx) (Rd : SRd) (Pg : SPg) (Pt : SPt) (Mk : SMk) (Lk : SLk) (Ck : SCk) (Jd : SJd) (Ld : SLd) (Pr : SPr), va_D A (o_cw ad ca rt Sj T0 T1 Rd Pg Pt Mk Lk Ck Jd Ld Pr) := fun _ _ _ _ _ _ _ _ _ _ _ _ _ => o_D_map hD rfl
  have hl : lv_has ls 5 [(0, .ref (ad 49)), (1, .ref (kd x1)), (2, .int x2), (3, .int x3), (4, .int x4)] := hl
  unfold m_Jd_remember at h
  have C0 := C
  obtain ⟨hx, hb, -, -, -, hown, hts, hK, -, -⟩ := C0
  refine lv_iload hx hb d_Jd_remember_0 (lv_at hl 4 rfl) ?_
  refine lv_if_lt (tgt := 17) hx hb d_Jd_remember_2 (by decide) (fun c1 => ?_) (fun c1 => ?_)
  · replace h := o_tt c1 h
    cases h
    exact o_rv C hP hS d_Jd_remember_17
  · replace h := o_ff c1 h
    refine lv_iload hx hb d_Jd_remember_5 (lv_at hl 4 rfl) ?_
    refine lv_iconst (v := (1:Int32)) hx hb d_Jd_remember_7 (by decide) ?_
    refine lv_iadd hx hb d_Jd_remember_8 ?_
    refine lv_aload_n hx hb d_Jd_remember_9 rfl (lv_at hl 0 rfl) ?_
    refine o_get (v := .ref (ad 50)) C in_Jd hP 49 cw_49 rfl 7 (by decide) k_2_81 rfl rfl d_Jd_remember_10 ?_
    refine va_alen (v := (102:Int32)) hx hb hK hP 50 40 cw_50 rfl rfl d_Jd_remember_13 ?_
    refine lv_icmp_lt (tgt := 18) hx hb d_Jd_remember_14 (by decide) (fun c2 => ?_) (fun c2 => ?_)
    · replace h := o_tt c2 h
      refine lv_aload_n hx hb d_Jd_remember_18 rfl (lv_at hl 1 rfl) ?_
      refine o_gkN (fi := 3) (v := (kw_reach x1)) hE C gx1 hS rfl rfl nw_25 d_Jd_remember_19 ?_
      refine lv_iconst (v := (2:Int32)) hx hb d_Jd_remember_22 (by decide) ?_
      refine lv_icmp_ne (tgt := 63) hx hb d_Jd_remember_23 (by decide) (fun c3 => ?_) (fun c3 => ?_)
      · replace h := o_ff c3 h
        refine lv_aload_n hx hb d_Jd_remember_63 rfl (lv_at hl 1 rfl) ?_
        refine va_gets (v := .ref (kd 8)) hx hb ((hE.2.2.1 _ _ _ C.2.2.2.2.2.2.2.2.2).1 8 (by decide)).1 hS hown (hts _ k_6_126) (fun _ h9 => h9) d_Jd_remember_64 ?_
        refine lv_acmp_eq (rx := some (kd x1)) (ry := some (kd 8)) (tgt := 94) hx hb d_Jd_remember_67 (by decide) (fun c4 => ?_) (fun c4 => ?_)
        · replace h := o_tt (o_ki hE C gx1 rfl c4) h
          cases h
          exact o_rv C hP hS d_Jd_remember_94
        · replace h := o_ff (o_kn_ c4) h
          refine lv_iload_n hx hb d_Jd_remember_70 rfl (lv_at hl 2 rfl) ?_
          refine lv_if_ne (tgt := 81) hx hb d_Jd_remember_71 (by decide) (fun c5 => ?_) (fun c5 => ?_)
          · replace h := o_ff c5 h
            exact w_Jd_remember_j81 hE C hDD x3 x4 Jd Sj T0 T1 Rd Pg Pt Mk Lk Ck Ld Pr rt h _ _ _ hP hS (lv_sub hl [0, 3, 4] rfl)
          · replace h := o_tt c5 h
            refine lv_aload_n hx hb d_Jd_remember_74 rfl (lv_at hl 1 rfl) ?_
            refine va_gets (v := .ref (kd 6)) hx hb ((hE.2.2.1 _ _ _ C.2.2.2.2.2.2.2.2.2).1 6 (by decide)).1 hS hown (hts _ k_6_134) (fun _ h9 => h9) d_Jd_remember_75 ?_
            refine lv_acmp_eq (rx := some (kd x1)) (ry := some (kd 6)) (tgt := 94) hx hb d_Jd_remember_78 (by decide) (fun c8 => ?_) (fun c8 => ?_)
            · replace h := o_tt (o_ki hE C gx1 rfl c8) h
              cases h
              exact o_rv C hP hS d_Jd_remember_94
            · replace h := o_ff (o_kn_ c8) h
              exact w_Jd_remember_j81 hE C hDD x3 x4 Jd Sj T0 T1 Rd Pg Pt Mk Lk Ck Ld Pr rt h _ _ _ hP hS (lv_sub hl [0, 3, 4] rfl)
      · replace h := o_tt c3 h
        refine lv_aload_n hx hb d_Jd_remember_26 rfl (lv_at hl 0 rfl) ?_
        refine o_get (v := .ref (ad 50)) C in_Jd hP 49 cw_49 rfl 7 (by decide) k_2_81 rfl rfl d_Jd_remember_27 ?_
        refine lv_iload hx hb d_Jd_remember_30 (lv_at hl 4 rfl) ?_
        refine lv_dup2_11 hx hb d_Jd_remember_32 rfl rfl ?_
        obtain ⟨g9, h⟩ := o_gd_some h
        refine o_lald (f := (Jd_evaluated Jd)) C hP 50 40 cw_50 rfl g9 d_Jd_remember_33 ?_
        refine lv_iload_n hx hb d_Jd_remember_34 rfl (lv_at hl 2 rfl) ?_
        refine lv_if_eq (tgt := 57) hx hb d_Jd_remember_35 (by decide) (fun c10 => ?_) (fun c10 => ?_)
        · replace h := o_tt c10 h
          refine lv_lconst (v := (0:Int64)) hx hb d_Jd_remember_57 (by decide) ?_
          refine lv_lor hx hb d_Jd_remember_58 ?_
          obtain ⟨g11, h⟩ := o_gd_some h
          refine o_last (f := (Jd_evaluated Jd)) (w1 := (o_cw ad ca rt Sj T0 T1 Rd Pg Pt Mk Lk Ck (Jd_mk (vp_updL (Jd_evaluated Jd) x4.toNatClampNeg (((Jd_evaluated Jd) x4.toNatClampNeg) ||| (0:Int64))) (Jd_silences Jd) (Jd_over Jd) (Jd_schemas Jd) (Jd_deepest Jd)) Ld Pr)) C hP (hDD _ _ _ _ _ _ _ _ _ _ _ _ _) hS 50 40 cw_50 rfl g11 rfl d_Jd_remember_59 (fun H locs hP hS => ?_)
          refine lv_goto (tgt := 94) hx hb d_Jd_remember_60 (by decide) ?_
          cases h
          exact o_rv C hP hS d_Jd_remember_94
        · replace h := o_ff c10 h
          refine lv_aload_n hx hb d_Jd_remember_38 rfl (lv_at hl 1 rfl) ?_
          refine va_gets (v := .ref (kd 1)) hx hb ((hE.2.2.1 _ _ _ C.2.2.2.2.2.2.2.2.2).1 1 (by decide)).1 hS hown (hts _ k_6_133) (fun _ h9 => h9) d_Jd_remember_39 ?_
          refine lv_acmp_eq (rx := some (kd x1)) (ry := some (kd 1)) (tgt := 57) hx hb d_Jd_remember_42 (by decide) (fun c12 => ?_) (fun c12 => ?_)
          · replace h := o_tt (o_ki hE C gx1 rfl c12) h
            refine lv_lconst (v := (0:Int64)) hx hb d_Jd_remember_57 (by decide) ?_
            refine lv_lor hx hb d_Jd_remember_58 ?_
            obtain ⟨g13, h⟩ := o_gd_some h
            refine o_last (f := (Jd_evaluated Jd)) (w1 := (o_cw ad ca rt Sj T0 T1 Rd Pg Pt Mk Lk Ck (Jd_mk (vp_updL (Jd_evaluated Jd) x4.toNatClampNeg (((Jd_evaluated Jd) x4.toNatClampNeg) ||| (0:Int64))) (Jd_silences Jd) (Jd_over Jd) (Jd_schemas Jd) (Jd_deepest Jd)) Ld Pr)) C hP (hDD _ _ _ _ _ _ _ _ _ _ _ _ _) hS 50 40 cw_50 rfl g13 rfl d_Jd_remember_59 (fun H locs hP hS => ?_)
            refine lv_goto (tgt := 94) hx hb d_Jd_remember_60 (by decide) ?_
            cases h
            exact o_rv C hP hS d_Jd_remember_94
          · replace h := o_ff (o_kn_ c12) h
            refine lv_aload_n hx hb d_Jd_remember_45 rfl (lv_at hl 0 rfl) ?_
            refine o_get (v := .ref (ad 50)) C in_Jd hP 49 cw_49 rfl 7 (by decide) k_2_81 rfl rfl d_Jd_remember_46 ?_
            refine lv_iload hx hb d_Jd_remember_49 (lv_at hl 4 rfl) ?_
            refine lv_iconst (v := (1:Int32)) hx hb d_Jd_remember_51 (by decide) ?_
            refine lv_iadd hx hb d_Jd_remember_52 ?_
            obtain ⟨g14, h⟩ := o_gd_some h
            refine o_lald (f := (Jd_evaluated Jd)) C hP 50 40 cw_50 rfl g14 d_Jd_remember_53 ?_
            refine lv_goto (tgt := 58) hx hb d_Jd_remember_54 (by decide) ?_
            refine lv_lor hx hb d_Jd_remember_58 ?_
            obtain ⟨g15, h⟩ := o_gd_some h
            refine o_last (f := (Jd_evaluated Jd)) (w1 := (o_cw ad ca rt Sj T0 T1 Rd Pg Pt Mk Lk Ck (Jd_mk (vp_updL (Jd_evaluated Jd) x4.toNatClampNeg (((Jd_evaluated Jd) x4.toNatClampNeg) ||| ((Jd_evaluated Jd) (x4 + (1:Int32)).toNatClampNeg))) (Jd_silences Jd) (Jd_over Jd) (Jd_schemas Jd) (Jd_deepest Jd)) Ld Pr)) C hP (hDD _ _ _ _ _ _ _ _ _ _ _ _ _) hS 50 40 cw_50 rfl g15 rfl d_Jd_remember_59 (fun H locs hP hS => ?_)
            refine lv_goto (tgt := 94) hx hb d_Jd_remember_60 (by decide) ?_
            cases h
            exact o_rv C hP hS d_Jd_remember_94
    · replace h := o_ff c2 h
      cases h
      exact o_rv C hP hS d_Jd_remember_17
set_option maxHeartbeats 4000000 in
set_option maxRecDepth 100000 in
theorem w_Jd_verdict_j131 {E : (Nat → Prop) → State → Heap → Prop} {p : Program} {l : Launch} {e : Env} {s : State} {m : MethodId} {args : Array Value} {below : List Frame} {meth : Method} {c : Code} {D : va_G} {ad kd sd vd xd : Nat → Nat} {ca : Nat → ClassId} {A : Nat → Prop} (hE : o_EK E kd sd vd xd) (C : o_Cx E p s m args meth c D o_cls (o_tys ca) "SchemaJudge$Judge" b_Jd_verdict (some .boolean) 7 cc_Jd_verdict A) (hDD : ∀ (rt : Nat) (Sj : SSJ) (T0 : STx) (T1 : STx) (Rd : SRd) (Pg : SPg) (Pt : SPt) (Mk : SMk) (Lk : SLk) (Ck : SCk) (Jd : SJd) (Ld : SLd) (Pr : SPr), va_D A (o_cw ad ca rt Sj T0 T1 Rd Pg Pt Mk Lk Ck Jd Ld Pr)) (n : Nat) (x3 : Int32) (x6 : Int32) (y0 : Int32) (y1 : Int32) (T0 : STx) (Mk : SMk) (Sj : SSJ) (T1 : STx) (Rd : SRd) (Pg : SPg) (Pt : SPt) (Lk : SLk) (Ck : SCk) (Jd : SJd) (Ld : SLd) (Pr : SPr) (rt : Nat) {r : Int32} (h : m_Jd_verdict_j131 n x3 x6 y0 y1 T0 Mk = some r) : o_At p l e rm_Jd_verdict s m args below meth c (MQ below (o_Qx D o_cls (some (.int r)) (o_cw ad ca rt Sj T0 T1 Rd Pg Pt Mk Lk Ck Jd Ld Pr) A) args s 0 0 A) o_cls D A 7 131 [.int y1, .int y0] (o_cw ad ca rt Sj T0 T1 Rd Pg Pt Mk Lk Ck Jd Ld Pr) [(0, .ref (ad 49)), (3, .int x3), (6, .int x6)] := by
  unfold m_Jd_verdict_j131 at h
  intro H locs ls hP hS hl
  have C0 := C
  obtain ⟨hx, hb, -, -, -, hown, hts, hK, -, -⟩ := C0
  refine lv_icmp_lt (tgt := 157) hx hb d_Jd_verdict_131 (by decide) (fun c10 => ?_) (fun c10 => ?_)
  · replace h := o_tt c10 h
    refine lv_iconst (v := (0:Int32)) hx hb d_Jd_verdict_157 (by decide) ?_
    cases h
    exact o_rz (v := (0:Int32)) C o_nar0 hP hS d_Jd_verdict_158
  · replace h := o_ff c10 h
    refine lv_iload hx hb d_Jd_verdict_134 (lv_at hl 2 rfl) ?_
    refine lv_iconst (v := (-1:Int32)) hx hb d_Jd_verdict_136 (by decide) ?_
    refine lv_icmp_eq (tgt := 153) hx hb d_Jd_verdict_137 (by decide) (fun c11 => ?_) (fun c11 => ?_)
    · replace h := o_tt c11 h
      refine lv_iconst (v := (1:Int32)) hx hb d_Jd_verdict_153 (by decide) ?_
      refine lv_goto (tgt := 158) hx hb d_Jd_verdict_154 (by decide) ?_
      cases h
      exact o_rz (v := (1:Int32)) C o_nar1 hP hS d_Jd_verdict_158
    · replace h := o_ff c11 h
      refine lv_iload_n hx hb d_Jd_verdict_140 rfl (lv_at hl 1 rfl) ?_
      refine lv_aload_n hx hb d_Jd_verdict_141 rfl (lv_at hl 0 rfl) ?_
      refine o_get (v := .ref (ad 1)) C in_Jd hP 49 cw_49 rfl 0 (by decide) k_2_74 rfl rfl d_Jd_verdict_142 ?_
      refine lv_iload hx hb d_Jd_verdict_145 (lv_at hl 2 rfl) ?_
      obtain ⟨q6, hq6, h⟩ := o_bd_some h
      refine o_V (st1 := [.int q6, .int x3]) (w1 := (o_cw ad ca rt Sj T0 T1 Rd Pg Pt Mk Lk Ck Jd Ld Pr)) hE.1 C (c_Tx_wholeNumber_0 hE l n x6 T0 Sj T1 Rd Pg Pt Mk Lk Ck Jd Ld Pr rt hq6) hP (hDD _ _ _ _ _ _ _ _ _ _ _ _ _) hS hl.1 rfl cw_1 k_6_143 k_5_61 k_5_62 k_1_2 k_5_63 hv_Tx_wholeNumber rfl rfl ⟨(Nat.le_of_ble_eq_true rfl), (Nat.le_of_ble_eq_true rfl)⟩ rfl (Nat.le_of_ble_eq_true rfl) ⟨Nat.zero_le _, Nat.zero_le _⟩ rfl d_Jd_verdict_147 (fun H locs hP hS => ?_)
      refine lv_icmp_gt (tgt := 157) hx hb d_Jd_verdict_150 (by decide) (fun c12 => ?_) (fun c12 => ?_)
      · replace h := o_tt c12 h
        refine lv_iconst (v := (0:Int32)) hx hb d_Jd_verdict_157 (by decide) ?_
        cases h
        exact o_rz (v := (0:Int32)) C o_nar0 hP hS d_Jd_verdict_158
      · replace h := o_ff c12 h
        refine lv_iconst (v := (1:Int32)) hx hb d_Jd_verdict_153 (by decide) ?_
        refine lv_goto (tgt := 158) hx hb d_Jd_verdict_154 (by decide) ?_
        cases h
        exact o_rz (v := (1:Int32)) C o_nar1 hP hS d_Jd_verdict_158
set_option maxHeartbeats 4000000 in
set_option maxRecDepth 100000 in
theorem c_Jd_verdict {E : (Nat → Prop) → State → Heap → Prop} {D : va_G} {ad kd sd vd xd : Nat → Nat} {ca : Nat → ClassId} (hE : o_EK E kd sd vd xd) (l : Launch) (n : Nat) (x1 : Nat) (gx1 : o_kb x1 = true) (x2 : Int32) (x3 : Int32) (x4 : Int32) (T0 : STx) (Mk : SMk) (Sj : SSJ) (T1 : STx) (Rd : SRd) (Pg : SPg) (Pt : SPt) (Lk : SLk) (Ck : SCk) (Jd : SJd) (Ld : SLd) (Pr : SPr) (rt : Nat) {r : Int32} (h : m_Jd_verdict n x1 x2 x3 x4 T0 Mk = some r) : o_Cn E l D o_cls (o_tys ca) y_Jd_verdict cc_Jd_verdict rm_Jd_verdict [.ref (ad 49), .ref (kd x1), .int x2, .int x3, .int x4] (o_cw ad ca rt Sj T0 T1 Rd Pg Pt Mk Lk Ck Jd Ld Pr) (o_cw ad ca rt Sj T0 T1 Rd Pg Pt Mk Lk Ck Jd Ld Pr) (some (.int r)) := by
  refine o_Cn_of (by decide) (Nat.le_of_ble_eq_true rfl) ?_
  intro p e s m below meth c A ls C hD hP hS hl
  have hDD : ∀ (rt : Nat) (Sj : SSJ) (T0 : STx) (T1 : STx) (Rd : SRd) (Pg : SPg) (Pt : SPt) (Mk : SMk) (Lk : SLk) (Ck : SCk) (Jd : SJd) (Ld : SLd) (Pr : SPr), va_D A (o_cw ad ca rt Sj T0 T1 Rd Pg Pt Mk Lk Ck Jd Ld Pr) := fun _ _ _ _ _ _ _ _ _ _ _ _ _ => o_D_map hD rfl
  have hl : lv_has ls 7 [(0, .ref (ad 49)), (1, .ref (kd x1)), (2, .int x2), (3, .int x3), (4, .int x4)] := hl
  unfold m_Jd_verdict at h
  have C0 := C
  obtain ⟨hx, hb, -, -, -, hown, hts, hK, -, -⟩ := C0
  refine va_gets (v := .ref (xd 1)) hx hb (hE.2.2.2.2.1 _ _ _ C.2.2.2.2.2.2.2.2.2).1 hS hown (hts _ k_6_62) (fun _ h9 => h9) d_Jd_verdict_0 ?_
  refine lv_aload_n hx hb d_Jd_verdict_3 rfl (lv_at hl 1 rfl) ?_
  refine o_ord (st1 := [.int (nI x1), .ref (xd 1)]) hE C gx1 hP (hDD _ _ _ _ _ _ _ _ _ _ _ _ _) hS hl.1 k_6_64 (Nat.le_of_ble_eq_true rfl) (Nat.le_of_ble_eq_true rfl) rfl (Nat.le_of_ble_eq_true rfl) d_Jd_verdict_4 (fun H locs hP hS => ?_)
  obtain ⟨g1, h⟩ := o_gd_some h
  refine va_ti (v := .int (sw_Keyword (nI x1).toNatClampNeg)) hx hb (hE.2.2.2.2.1 _ _ _ C.2.2.2.2.2.2.2.2.2).2 hS (o_in_in g1) rfl d_Jd_verdict_7 ?_
  refine lv_topi (fun w8 ew8 => ?_)
  replace h := o_nm_at ew8 h
  by_cases c2 : w8 = (9:Int32)
  · replace h := o_tt c2 h
    refine lv_tableIn (off := 32) (tgt := 40) hx hb d_Jd_verdict_8 (by rw [c2]; decide) (by rw [c2]; decide) (by rw [c2]; rfl) (by decide) ?_
    refine lv_iload_n hx hb d_Jd_verdict_40 rfl (lv_at hl 3 rfl) ?_
    refine lv_if_ne (tgt := 48) hx hb d_Jd_verdict_41 (by decide) (fun c3 => ?_) (fun c3 => ?_)
    · replace h := o_ff c3 h
      refine lv_iconst (v := (0:Int32)) hx hb d_Jd_verdict_48 (by decide) ?_
      cases h
      exact o_rz (v := (0:Int32)) C o_nar0 hP hS d_Jd_verdict_49
    · replace h := o_tt c3 h
      refine lv_iconst (v := (1:Int32)) hx hb d_Jd_verdict_44 (by decide) ?_
      refine lv_goto (tgt := 49) hx hb d_Jd_verdict_45 (by decide) ?_
      cases h
      exact o_rz (v := (1:Int32)) C o_nar1 hP hS d_Jd_verdict_49
  replace h := o_ff c2 h
  by_cases c4 : w8 = (10:Int32)
  · replace h := o_tt c4 h
    refine lv_tableIn (off := 42) (tgt := 50) hx hb d_Jd_verdict_8 (by rw [c4]; decide) (by rw [c4]; decide) (by rw [c4]; rfl) (by decide) ?_
    refine lv_iload_n hx hb d_Jd_verdict_50 rfl (lv_at hl 3 rfl) ?_
    refine lv_if_le (tgt := 58) hx hb d_Jd_verdict_51 (by decide) (fun c5 => ?_) (fun c5 => ?_)
    · replace h := o_tt c5 h
      refine lv_iconst (v := (0:Int32)) hx hb d_Jd_verdict_58 (by decide) ?_
      cases h
      exact o_rz (v := (0:Int32)) C o_nar0 hP hS d_Jd_verdict_59
    · replace h := o_ff c5 h
      refine lv_iconst (v := (1:Int32)) hx hb d_Jd_verdict_54 (by decide) ?_
      refine lv_goto (tgt := 59) hx hb d_Jd_verdict_55 (by decide) ?_
      cases h
      exact o_rz (v := (1:Int32)) C o_nar1 hP hS d_Jd_verdict_59
  replace h := o_ff c4 h
  by_cases c6 : w8 = (11:Int32)
  · replace h := o_tt c6 h
    refine lv_tableIn (off := 52) (tgt := 60) hx hb d_Jd_verdict_8 (by rw [c6]; decide) (by rw [c6]; decide) (by rw [c6]; rfl) (by decide) ?_
    refine lv_iload_n hx hb d_Jd_verdict_60 rfl (lv_at hl 3 rfl) ?_
    refine lv_iconst (v := (1:Int32)) hx hb d_Jd_verdict_61 (by decide) ?_
    refine lv_icmp_ne (tgt := 69) hx hb d_Jd_verdict_62 (by decide) (fun c7 => ?_) (fun c7 => ?_)
    · replace h := o_ff c7 h
      refine lv_iconst (v := (0:Int32)) hx hb d_Jd_verdict_69 (by decide) ?_
      cases h
      exact o_rz (v := (0:Int32)) C o_nar0 hP hS d_Jd_verdict_70
    · replace h := o_tt c7 h
      refine lv_iconst (v := (1:Int32)) hx hb d_Jd_verdict_65 (by decide) ?_
      refine lv_goto (tgt := 70) hx hb d_Jd_verdict_66 (by decide) ?_
      cases h
      exact o_rz (v := (1:Int32)) C o_nar1 hP hS d_Jd_verdict_70
  replace h := o_ff c6 h
  by_cases c8 : w8 = (12:Int32)
  · replace h := o_tt c8 h
    refine lv_tableIn (off := 63) (tgt := 71) hx hb d_Jd_verdict_8 (by rw [c8]; decide) (by rw [c8]; decide) (by rw [c8]; rfl) (by decide) ?_
    refine lv_aload_n hx hb d_Jd_verdict_71 rfl (lv_at hl 0 rfl) ?_
    refine o_get (v := .ref (ad 39)) C in_Jd hP 49 cw_49 rfl 1 (by decide) k_2_75 rfl rfl d_Jd_verdict_72 ?_
    refine lv_aload_n hx hb d_Jd_verdict_75 rfl (lv_at hl 0 rfl) ?_
    refine o_get (v := .ref (ad 1)) C in_Jd hP 49 cw_49 rfl 0 (by decide) k_2_74 rfl rfl d_Jd_verdict_76 ?_
    refine lv_iload_n hx hb d_Jd_verdict_79 rfl (lv_at hl 2 rfl) ?_
    obtain ⟨q1, hq1, h⟩ := o_bd_some h
    refine o_V (st1 := [.int q1, .ref (ad 39)]) (w1 := (o_cw ad ca rt Sj T0 T1 Rd Pg Pt Mk Lk Ck Jd Ld Pr)) hE.1 C (c_Tx_parent_0 hE l x2 T0 Sj T1 Rd Pg Pt Mk Lk Ck Jd Ld Pr rt hq1) hP (hDD _ _ _ _ _ _ _ _ _ _ _ _ _) hS hl.1 rfl cw_1 k_6_70 k_5_196 k_5_197 k_1_2 k_5_198 hv_Tx_parent rfl rfl ⟨(Nat.le_of_ble_eq_true rfl), (Nat.le_of_ble_eq_true rfl)⟩ rfl (Nat.le_of_ble_eq_true rfl) ⟨Nat.zero_le _, Nat.zero_le _⟩ rfl d_Jd_verdict_80 (fun H locs hP hS => ?_)
    refine va_gets (v := .ref (kd 29)) hx hb ((hE.2.2.1 _ _ _ C.2.2.2.2.2.2.2.2.2).1 29 (by decide)).1 hS hown (hts _ k_6_139) (fun _ h9 => h9) d_Jd_verdict_83 ?_
    obtain ⟨q2, hq2, h⟩ := o_bd_some h
    refine o_V (st1 := [.int q2]) (w1 := (o_cw ad ca rt Sj T0 T1 Rd Pg Pt Mk Lk Ck Jd Ld Pr)) hE.1 C (c_Mk_find hE l n q1 29 rfl T0 Mk Sj T1 Rd Pg Pt Lk Ck Jd Ld Pr rt hq2) hP (hDD _ _ _ _ _ _ _ _ _ _ _ _ _) hS hl.1 rfl cw_39 k_6_73 k_6_74 k_6_75 k_1_6 k_6_76 hv_Mk_find rfl rfl ⟨(Nat.le_of_ble_eq_true rfl), (Nat.le_of_ble_eq_true rfl)⟩ rfl (Nat.le_of_ble_eq_true rfl) ⟨Nat.zero_le _, Nat.zero_le _⟩ rfl d_Jd_verdict_86 (fun H locs hP hS => ?_)
    refine lv_istore (lv' := [(5, .int q2), (0, .ref (ad 49)), (1, .ref (kd x1)), (2, .int x2), (3, .int x3), (4, .int x4)]) hx hb d_Jd_verdict_89 hl (by decide) rfl (fun ls hl => ?_)
    refine lv_aload_n hx hb d_Jd_verdict_91 rfl (lv_at hl 1 rfl) ?_
    refine o_get (v := .ref (ad 39)) C in_Jd hP 49 cw_49 rfl 1 (by decide) k_2_75 rfl rfl d_Jd_verdict_92 ?_
    refine lv_aload_n hx hb d_Jd_verdict_95 rfl (lv_at hl 1 rfl) ?_
    refine o_get (v := .ref (ad 1)) C in_Jd hP 49 cw_49 rfl 0 (by decide) k_2_74 rfl rfl d_Jd_verdict_96 ?_
    refine lv_iload_n hx hb d_Jd_verdict_99 rfl (lv_at hl 3 rfl) ?_
    obtain ⟨q3, hq3, h⟩ := o_bd_some h
    refine o_V (st1 := [.int q3, .ref (ad 39)]) (w1 := (o_cw ad ca rt Sj T0 T1 Rd Pg Pt Mk Lk Ck Jd Ld Pr)) hE.1 C (c_Tx_parent_0 hE l x2 T0 Sj T1 Rd Pg Pt Mk Lk Ck Jd Ld Pr rt hq3) hP (hDD _ _ _ _ _ _ _ _ _ _ _ _ _) hS hl.1 rfl cw_1 k_6_70 k_5_196 k_5_197 k_1_2 k_5_198 hv_Tx_parent rfl rfl ⟨(Nat.le_of_ble_eq_true rfl), (Nat.le_of_ble_eq_true rfl)⟩ rfl (Nat.le_of_ble_eq_true rfl) ⟨Nat.zero_le _, Nat.zero_le _⟩ rfl d_Jd_verdict_100 (fun H locs hP hS => ?_)
    refine va_gets (v := .ref (kd 28)) hx hb ((hE.2.2.1 _ _ _ C.2.2.2.2.2.2.2.2.2).1 28 (by decide)).1 hS hown (hts _ k_6_141) (fun _ h9 => h9) d_Jd_verdict_103 ?_
    obtain ⟨q4, hq4, h⟩ := o_bd_some h
    refine o_V (st1 := [.int q4]) (w1 := (o_cw ad ca rt Sj T0 T1 Rd Pg Pt Mk Lk Ck Jd Ld Pr)) hE.1 C (c_Mk_find hE l n q3 28 rfl T0 Mk Sj T1 Rd Pg Pt Lk Ck Jd Ld Pr rt hq4) hP (hDD _ _ _ _ _ _ _ _ _ _ _ _ _) hS hl.1 rfl cw_39 k_6_73 k_6_74 k_6_75 k_1_6 k_6_76 hv_Mk_find rfl rfl ⟨(Nat.le_of_ble_eq_true rfl), (Nat.le_of_ble_eq_true rfl)⟩ rfl (Nat.le_of_ble_eq_true rfl) ⟨Nat.zero_le _, Nat.zero_le _⟩ rfl d_Jd_verdict_106 (fun H locs hP hS => ?_)
    refine lv_istore (lv' := [(6, .int q4), (5, .int q2), (0, .ref (ad 49)), (1, .ref (kd x1)), (2, .int x2), (3, .int x3), (4, .int x4)]) hx hb d_Jd_verdict_109 hl (by decide) rfl (fun ls hl => ?_)
    refine lv_iload_n hx hb d_Jd_verdict_111 rfl (lv_at hl 5 rfl) ?_
    refine lv_iload hx hb d_Jd_verdict_112 (lv_at hl 1 rfl) ?_
    refine lv_iconst (v := (-1:Int32)) hx hb d_Jd_verdict_114 (by decide) ?_
    refine lv_icmp_ne (tgt := 122) hx hb d_Jd_verdict_115 (by decide) (fun c9 => ?_) (fun c9 => ?_)
    · replace h := o_ff c9 h
      refine lv_aload_n hx hb d_Jd_verdict_122 rfl (lv_at hl 2 rfl) ?_
      refine o_get (v := .ref (ad 1)) C in_Jd hP 49 cw_49 rfl 0 (by decide) k_2_74 rfl rfl d_Jd_verdict_123 ?_
      refine lv_iload hx hb d_Jd_verdict_126 (lv_at hl 1 rfl) ?_
      obtain ⟨q5, hq5, h⟩ := o_bd_some h
      refine o_V (st1 := [.int q5, .int x3]) (w1 := (o_cw ad ca rt Sj T0 T1 Rd Pg Pt Mk Lk Ck Jd Ld Pr)) hE.1 C (c_Tx_wholeNumber_0 hE l n q2 T0 Sj T1 Rd Pg Pt Mk Lk Ck Jd Ld Pr rt hq5) hP (hDD _ _ _ _ _ _ _ _ _ _ _ _ _) hS hl.1 rfl cw_1 k_6_143 k_5_61 k_5_62 k_1_2 k_5_63 hv_Tx_wholeNumber rfl rfl ⟨(Nat.le_of_ble_eq_true rfl), (Nat.le_of_ble_eq_true rfl)⟩ rfl (Nat.le_of_ble_eq_true rfl) ⟨Nat.zero_le _, Nat.zero_le _⟩ rfl d_Jd_verdict_128 (fun H locs hP hS => ?_)
      exact w_Jd_verdict_j131 hE C hDD n x3 q4 x3 q5 T0 Mk Sj T1 Rd Pg Pt Lk Ck Jd Ld Pr rt h _ _ _ hP hS (lv_sub hl [2, 5, 0] rfl)
    · replace h := o_tt c9 h
      refine lv_iconst (v := (1:Int32)) hx hb d_Jd_verdict_118 (by decide) ?_
      refine lv_goto (tgt := 131) hx hb d_Jd_verdict_119 (by decide) ?_
      exact w_Jd_verdict_j131 hE C hDD n x3 q4 x3 (1:Int32) T0 Mk Sj T1 Rd Pg Pt Lk Ck Jd Ld Pr rt h _ _ _ hP hS (lv_sub hl [2, 5, 0] rfl)
  replace h := o_ff c8 h
  refine lv_tableOut (tgt := 159) hx hb d_Jd_verdict_8 (by have ec2 := o_ne_i (n := 9) (by decide) c2; have ec4 := o_ne_i (n := 10) (by decide) c4; have ec6 := o_ne_i (n := 11) (by decide) c6; have ec8 := o_ne_i (n := 12) (by decide) c8; omega) (by decide) ?_
  refine lv_iload hx hb d_Jd_verdict_159 (lv_at hl 4 rfl) ?_
  refine lv_if_ne (tgt := 168) hx hb d_Jd_verdict_161 (by decide) (fun c13 => ?_) (fun c13 => ?_)
  · replace h := o_ff c13 h
    refine lv_iconst (v := (0:Int32)) hx hb d_Jd_verdict_168 (by decide) ?_
    cases h
    exact o_rz (v := (0:Int32)) C o_nar0 hP hS d_Jd_verdict_169
  · replace h := o_tt c13 h
    refine lv_iconst (v := (1:Int32)) hx hb d_Jd_verdict_164 (by decide) ?_
    refine lv_goto (tgt := 169) hx hb d_Jd_verdict_165 (by decide) ?_
    cases h
    exact o_rz (v := (1:Int32)) C o_nar1 hP hS d_Jd_verdict_169
set_option maxHeartbeats 4000000 in
set_option maxRecDepth 100000 in
theorem c_Kw_tellsFailuresOnly {E : (Nat → Prop) → State → Heap → Prop} {D : va_G} {ad kd sd vd xd : Nat → Nat} {ca : Nat → ClassId} (hE : o_EK E kd sd vd xd) (l : Launch) (x0 : Nat) (gx0 : o_kb x0 = true) (Sj : SSJ) (T0 : STx) (T1 : STx) (Rd : SRd) (Pg : SPg) (Pt : SPt) (Mk : SMk) (Lk : SLk) (Ck : SCk) (Jd : SJd) (Ld : SLd) (Pr : SPr) (rt : Nat) {r : Int32} (h : m_Kw_tellsFailuresOnly x0 = some r) : o_Cn E l D o_cls (o_tys ca) y_Kw_tellsFailuresOnly cc_Kw_tellsFailuresOnly rm_Kw_tellsFailuresOnly [.ref (kd x0)] (o_cw ad ca rt Sj T0 T1 Rd Pg Pt Mk Lk Ck Jd Ld Pr) (o_cw ad ca rt Sj T0 T1 Rd Pg Pt Mk Lk Ck Jd Ld Pr) (some (.int r)) := by
  refine o_Cn_of (by decide) (Nat.le_of_ble_eq_true rfl) ?_
  intro p e s m below meth c A ls C hD hP hS hl
  have hDD : ∀ (rt : Nat) (Sj : SSJ) (T0 : STx) (T1 : STx) (Rd : SRd) (Pg : SPg) (Pt : SPt) (Mk : SMk) (Lk : SLk) (Ck : SCk) (Jd : SJd) (Ld : SLd) (Pr : SPr), va_D A (o_cw ad ca rt Sj T0 T1 Rd Pg Pt Mk Lk Ck Jd Ld Pr) := fun _ _ _ _ _ _ _ _ _ _ _ _ _ => o_D_map hD rfl
  have hl : lv_has ls 1 [(0, .ref (kd x0))] := hl
  unfold m_Kw_tellsFailuresOnly at h
  have C0 := C
  obtain ⟨hx, hb, -, -, -, hown, hts, hK, -, -⟩ := C0
  refine lv_aload_n hx hb d_Kw_tellsFailuresOnly_0 rfl (lv_at hl 0 rfl) ?_
  refine va_gets (v := .ref (kd 12)) hx hb ((hE.2.2.1 _ _ _ C.2.2.2.2.2.2.2.2.2).1 12 (by decide)).1 hS hown (hts _ k_6_148) (fun _ h9 => h9) d_Kw_tellsFailuresOnly_1 ?_
  refine lv_acmp_eq (rx := some (kd x0)) (ry := some (kd 12)) (tgt := 14) hx hb d_Kw_tellsFailuresOnly_4 (by decide) (fun c1 => ?_) (fun c1 => ?_)
  · replace h := o_tt (o_ki hE C gx0 rfl c1) h
    refine lv_iconst (v := (1:Int32)) hx hb d_Kw_tellsFailuresOnly_14 (by decide) ?_
    refine lv_goto (tgt := 19) hx hb d_Kw_tellsFailuresOnly_15 (by decide) ?_
    cases h
    exact o_rz (v := (1:Int32)) C o_nar1 hP hS d_Kw_tellsFailuresOnly_19
  · replace h := o_ff (o_kn_ c1) h
    refine lv_aload_n hx hb d_Kw_tellsFailuresOnly_7 rfl (lv_at hl 0 rfl) ?_
    refine va_gets (v := .ref (kd 13)) hx hb ((hE.2.2.1 _ _ _ C.2.2.2.2.2.2.2.2.2).1 13 (by decide)).1 hS hown (hts _ k_6_150) (fun _ h9 => h9) d_Kw_tellsFailuresOnly_8 ?_
    refine lv_acmp_ne (rx := some (kd x0)) (ry := some (kd 13)) (tgt := 18) hx hb d_Kw_tellsFailuresOnly_11 (by decide) (fun c2 => ?_) (fun c2 => ?_)
    · replace h := o_ff (o_kn_ c2) h
      refine lv_iconst (v := (0:Int32)) hx hb d_Kw_tellsFailuresOnly_18 (by decide) ?_
      cases h
      exact o_rz (v := (0:Int32)) C o_nar0 hP hS d_Kw_tellsFailuresOnly_19
    · replace h := o_tt (o_ki hE C gx0 rfl c2) h
      refine lv_iconst (v := (1:Int32)) hx hb d_Kw_tellsFailuresOnly_14 (by decide) ?_
      refine lv_goto (tgt := 19) hx hb d_Kw_tellsFailuresOnly_15 (by decide) ?_
      cases h
      exact o_rz (v := (1:Int32)) C o_nar1 hP hS d_Kw_tellsFailuresOnly_19
set_option maxHeartbeats 4000000 in
set_option maxRecDepth 100000 in
theorem c_Kw_concerns {E : (Nat → Prop) → State → Heap → Prop} {D : va_G} {ad kd sd vd xd : Nat → Nat} {ca : Nat → ClassId} (hE : o_EK E kd sd vd xd) (l : Launch) (x0 : Nat) (gx0 : o_kb x0 = true) (x1 : Int32) (Sj : SSJ) (T0 : STx) (T1 : STx) (Rd : SRd) (Pg : SPg) (Pt : SPt) (Mk : SMk) (Lk : SLk) (Ck : SCk) (Jd : SJd) (Ld : SLd) (Pr : SPr) (rt : Nat) {r : Int32} (h : m_Kw_concerns x0 x1 = some r) : o_Cn E l D o_cls (o_tys ca) y_Kw_concerns cc_Kw_concerns rm_Kw_concerns [.ref (kd x0), .int x1] (o_cw ad ca rt Sj T0 T1 Rd Pg Pt Mk Lk Ck Jd Ld Pr) (o_cw ad ca rt Sj T0 T1 Rd Pg Pt Mk Lk Ck Jd Ld Pr) (some (.int r)) := by
  refine o_Cn_of (by decide) (Nat.le_of_ble_eq_true rfl) ?_
  intro p e s m below meth c A ls C hD hP hS hl
  have hDD : ∀ (rt : Nat) (Sj : SSJ) (T0 : STx) (T1 : STx) (Rd : SRd) (Pg : SPg) (Pt : SPt) (Mk : SMk) (Lk : SLk) (Ck : SCk) (Jd : SJd) (Ld : SLd) (Pr : SPr), va_D A (o_cw ad ca rt Sj T0 T1 Rd Pg Pt Mk Lk Ck Jd Ld Pr) := fun _ _ _ _ _ _ _ _ _ _ _ _ _ => o_D_map hD rfl
  have hl : lv_has ls 2 [(0, .ref (kd x0)), (1, .int x1)] := hl
  unfold m_Kw_concerns at h
  have C0 := C
  obtain ⟨hx, hb, -, -, -, hown, hts, hK, -, -⟩ := C0
  refine lv_aload_n hx hb d_Kw_concerns_0 rfl (lv_at hl 0 rfl) ?_
  refine o_gk (fi := 2) (v := (kw_kind x0)) hE C gx0 hS rfl rfl k_10_109 d_Kw_concerns_1 ?_
  refine lv_iconst (v := (-1:Int32)) hx hb d_Kw_concerns_4 (by decide) ?_
  refine lv_icmp_eq (tgt := 16) hx hb d_Kw_concerns_5 (by decide) (fun c1 => ?_) (fun c1 => ?_)
  · replace h := o_tt c1 h
    refine lv_iconst (v := (1:Int32)) hx hb d_Kw_concerns_16 (by decide) ?_
    refine lv_goto (tgt := 21) hx hb d_Kw_concerns_17 (by decide) ?_
    cases h
    exact o_rz (v := (1:Int32)) C o_nar1 hP hS d_Kw_concerns_21
  · replace h := o_ff c1 h
    refine lv_aload_n hx hb d_Kw_concerns_8 rfl (lv_at hl 0 rfl) ?_
    refine o_gk (fi := 2) (v := (kw_kind x0)) hE C gx0 hS rfl rfl k_10_109 d_Kw_concerns_9 ?_
    refine lv_iload_n hx hb d_Kw_concerns_12 rfl (lv_at hl 1 rfl) ?_
    refine lv_icmp_ne (tgt := 20) hx hb d_Kw_concerns_13 (by decide) (fun c2 => ?_) (fun c2 => ?_)
    · replace h := o_ff c2 h
      refine lv_iconst (v := (0:Int32)) hx hb d_Kw_concerns_20 (by decide) ?_
      cases h
      exact o_rz (v := (0:Int32)) C o_nar0 hP hS d_Kw_concerns_21
    · replace h := o_tt c2 h
      refine lv_iconst (v := (1:Int32)) hx hb d_Kw_concerns_16 (by decide) ?_
      refine lv_goto (tgt := 21) hx hb d_Kw_concerns_17 (by decide) ?_
      cases h
      exact o_rz (v := (1:Int32)) C o_nar1 hP hS d_Kw_concerns_21
set_option maxHeartbeats 4000000 in
set_option maxRecDepth 100000 in
theorem c_Tx_kind_1 {E : (Nat → Prop) → State → Heap → Prop} {D : va_G} {ad kd sd vd xd : Nat → Nat} {ca : Nat → ClassId} (hE : o_EK E kd sd vd xd) (l : Launch) (x1 : Int32) (a0 : STx) (Sj : SSJ) (T0 : STx) (Rd : SRd) (Pg : SPg) (Pt : SPt) (Mk : SMk) (Lk : SLk) (Ck : SCk) (Jd : SJd) (Ld : SLd) (Pr : SPr) (rt : Nat) {r : Int32} (h : m_Tx_kind x1 a0 = some r) : o_Cn E l D o_cls (o_tys ca) y_Tx_kind cc_Tx_kind rm_Tx_kind [.ref (ad 12), .int x1] (o_cw ad ca rt Sj T0 a0 Rd Pg Pt Mk Lk Ck Jd Ld Pr) (o_cw ad ca rt Sj T0 a0 Rd Pg Pt Mk Lk Ck Jd Ld Pr) (some (.int r)) := by
  refine o_Cn_of (by decide) (Nat.le_of_ble_eq_true rfl) ?_
  intro p e s m below meth c A ls C hD hP hS hl
  have hDD : ∀ (rt : Nat) (Sj : SSJ) (T0 : STx) (T1 : STx) (Rd : SRd) (Pg : SPg) (Pt : SPt) (Mk : SMk) (Lk : SLk) (Ck : SCk) (Jd : SJd) (Ld : SLd) (Pr : SPr), va_D A (o_cw ad ca rt Sj T0 T1 Rd Pg Pt Mk Lk Ck Jd Ld Pr) := fun _ _ _ _ _ _ _ _ _ _ _ _ _ => o_D_map hD rfl
  have hl : lv_has ls 2 [(0, .ref (ad 12)), (1, .int x1)] := hl
  unfold m_Tx_kind at h
  have C0 := C
  obtain ⟨hx, hb, -, -, -, hown, hts, hK, -, -⟩ := C0
  refine lv_iload_n hx hb d_Tx_kind_0 rfl (lv_at hl 1 rfl) ?_
  refine lv_if_lt (tgt := 21) hx hb d_Tx_kind_1 (by decide) (fun c1 => ?_) (fun c1 => ?_)
  · replace h := o_tt c1 h
    refine lv_iconst (v := (-1:Int32)) hx hb d_Tx_kind_21 (by decide) ?_
    cases h
    exact o_ri (v := (-1:Int32)) C hP hS d_Tx_kind_22
  · replace h := o_ff c1 h
    refine lv_iload_n hx hb d_Tx_kind_4 rfl (lv_at hl 1 rfl) ?_
    refine lv_aload_n hx hb d_Tx_kind_5 rfl (lv_at hl 0 rfl) ?_
    refine o_get (v := .int (Tx_total a0)) C in_Tx hP 12 cw_12 rfl 10 (by decide) k_1_56 rfl rfl d_Tx_kind_6 ?_
    refine lv_icmp_ge (tgt := 21) hx hb d_Tx_kind_9 (by decide) (fun c2 => ?_) (fun c2 => ?_)
    · replace h := o_tt c2 h
      refine lv_iconst (v := (-1:Int32)) hx hb d_Tx_kind_21 (by decide) ?_
      cases h
      exact o_ri (v := (-1:Int32)) C hP hS d_Tx_kind_22
    · replace h := o_ff c2 h
      refine lv_aload_n hx hb d_Tx_kind_12 rfl (lv_at hl 0 rfl) ?_
      refine o_get (v := .ref (ad 13)) C in_Tx hP 12 cw_12 rfl 0 (by decide) k_1_46 rfl rfl d_Tx_kind_13 ?_
      refine lv_iload_n hx hb d_Tx_kind_16 rfl (lv_at hl 1 rfl) ?_
      obtain ⟨g3, h⟩ := o_gd_some h
      refine o_iald (f := (Tx_kinds a0)) C hP 13 10 cw_13 rfl g3 d_Tx_kind_17 ?_
      refine lv_goto (tgt := 22) hx hb d_Tx_kind_18 (by decide) ?_
      cases h
      exact o_ri (v := ((Tx_kinds a0) x1.toNatClampNeg)) C hP hS d_Tx_kind_22
set_option maxHeartbeats 4000000 in
set_option maxRecDepth 100000 in
theorem c_Tx_exponent_1 {E : (Nat → Prop) → State → Heap → Prop} {D : va_G} {ad kd sd vd xd : Nat → Nat} {ca : Nat → ClassId} (hE : o_EK E kd sd vd xd) (l : Launch) (x1 : Int32) (a0 : STx) (Sj : SSJ) (T0 : STx) (Rd : SRd) (Pg : SPg) (Pt : SPt) (Mk : SMk) (Lk : SLk) (Ck : SCk) (Jd : SJd) (Ld : SLd) (Pr : SPr) (rt : Nat) {r : Int32} (h : m_Tx_exponent x1 a0 = some r) : o_Cn E l D o_cls (o_tys ca) y_Tx_exponent cc_Tx_exponent rm_Tx_exponent [.ref (ad 12), .int x1] (o_cw ad ca rt Sj T0 a0 Rd Pg Pt Mk Lk Ck Jd Ld Pr) (o_cw ad ca rt Sj T0 a0 Rd Pg Pt Mk Lk Ck Jd Ld Pr) (some (.int r)) := by
  refine o_Cn_of (by decide) (Nat.le_of_ble_eq_true rfl) ?_
  intro p e s m below meth c A ls C hD hP hS hl
  have hDD : ∀ (rt : Nat) (Sj : SSJ) (T0 : STx) (T1 : STx) (Rd : SRd) (Pg : SPg) (Pt : SPt) (Mk : SMk) (Lk : SLk) (Ck : SCk) (Jd : SJd) (Ld : SLd) (Pr : SPr), va_D A (o_cw ad ca rt Sj T0 T1 Rd Pg Pt Mk Lk Ck Jd Ld Pr) := fun _ _ _ _ _ _ _ _ _ _ _ _ _ => o_D_map hD rfl
  have hl : lv_has ls 2 [(0, .ref (ad 12)), (1, .int x1)] := hl
  unfold m_Tx_exponent at h
  have C0 := C
  obtain ⟨hx, hb, -, -, -, hown, hts, hK, -, -⟩ := C0
  refine lv_iload_n hx hb d_Tx_exponent_0 rfl (lv_at hl 1 rfl) ?_
  refine lv_if_lt (tgt := 21) hx hb d_Tx_exponent_1 (by decide) (fun c1 => ?_) (fun c1 => ?_)
  · replace h := o_tt c1 h
    refine lv_iconst (v := (0:Int32)) hx hb d_Tx_exponent_21 (by decide) ?_
    cases h
    exact o_ri (v := (0:Int32)) C hP hS d_Tx_exponent_22
  · replace h := o_ff c1 h
    refine lv_iload_n hx hb d_Tx_exponent_4 rfl (lv_at hl 1 rfl) ?_
    refine lv_aload_n hx hb d_Tx_exponent_5 rfl (lv_at hl 0 rfl) ?_
    refine o_get (v := .int (Tx_total a0)) C in_Tx hP 12 cw_12 rfl 10 (by decide) k_1_56 rfl rfl d_Tx_exponent_6 ?_
    refine lv_icmp_ge (tgt := 21) hx hb d_Tx_exponent_9 (by decide) (fun c2 => ?_) (fun c2 => ?_)
    · replace h := o_tt c2 h
      refine lv_iconst (v := (0:Int32)) hx hb d_Tx_exponent_21 (by decide) ?_
      cases h
      exact o_ri (v := (0:Int32)) C hP hS d_Tx_exponent_22
    · replace h := o_ff c2 h
      refine lv_aload_n hx hb d_Tx_exponent_12 rfl (lv_at hl 0 rfl) ?_
      refine o_get (v := .ref (ad 17)) C in_Tx hP 12 cw_12 rfl 4 (by decide) k_1_50 rfl rfl d_Tx_exponent_13 ?_
      refine lv_iload_n hx hb d_Tx_exponent_16 rfl (lv_at hl 1 rfl) ?_
      obtain ⟨g3, h⟩ := o_gd_some h
      refine o_iald (f := (Tx_exponents a0)) C hP 17 14 cw_17 rfl g3 d_Tx_exponent_17 ?_
      refine lv_goto (tgt := 22) hx hb d_Tx_exponent_18 (by decide) ?_
      cases h
      exact o_ri (v := ((Tx_exponents a0) x1.toNatClampNeg)) C hP hS d_Tx_exponent_22
set_option maxHeartbeats 4000000 in
set_option maxRecDepth 100000 in
theorem c_Jd_isOfType {E : (Nat → Prop) → State → Heap → Prop} {D : va_G} {ad kd sd vd xd : Nat → Nat} {ca : Nat → ClassId} (hE : o_EK E kd sd vd xd) (l : Launch) (n : Nat) (x1 : Int32) (x2 : Int32) (T0 : STx) (T1 : STx) (Sj : SSJ) (Rd : SRd) (Pg : SPg) (Pt : SPt) (Mk : SMk) (Lk : SLk) (Ck : SCk) (Jd : SJd) (Ld : SLd) (Pr : SPr) (rt : Nat) {r : Int32} (h : m_Jd_isOfType n x1 x2 T0 T1 = some r) : o_Cn E l D o_cls (o_tys ca) y_Jd_isOfType cc_Jd_isOfType rm_Jd_isOfType [.ref (ad 49), .int x1, .int x2] (o_cw ad ca rt Sj T0 T1 Rd Pg Pt Mk Lk Ck Jd Ld Pr) (o_cw ad ca rt Sj T0 T1 Rd Pg Pt Mk Lk Ck Jd Ld Pr) (some (.int r)) := by
  refine o_Cn_of (by decide) (Nat.le_of_ble_eq_true rfl) ?_
  intro p e s m below meth c A ls C hD hP hS hl
  have hDD : ∀ (rt : Nat) (Sj : SSJ) (T0 : STx) (T1 : STx) (Rd : SRd) (Pg : SPg) (Pt : SPt) (Mk : SMk) (Lk : SLk) (Ck : SCk) (Jd : SJd) (Ld : SLd) (Pr : SPr), va_D A (o_cw ad ca rt Sj T0 T1 Rd Pg Pt Mk Lk Ck Jd Ld Pr) := fun _ _ _ _ _ _ _ _ _ _ _ _ _ => o_D_map hD rfl
  have hl : lv_has ls 3 [(0, .ref (ad 49)), (1, .int x1), (2, .int x2)] := hl
  unfold m_Jd_isOfType at h
  have C0 := C
  obtain ⟨hx, hb, -, -, -, hown, hts, hK, -, -⟩ := C0
  refine lv_aload_n hx hb d_Jd_isOfType_0 rfl (lv_at hl 0 rfl) ?_
  refine o_get (v := .ref (ad 12)) C in_Jd hP 49 cw_49 rfl 2 (by decide) k_2_76 rfl rfl d_Jd_isOfType_1 ?_
  refine lv_iload_n hx hb d_Jd_isOfType_4 rfl (lv_at hl 2 rfl) ?_
  obtain ⟨q1, hq1, h⟩ := o_bd_some h
  refine o_V (st1 := [.int q1]) (w1 := (o_cw ad ca rt Sj T0 T1 Rd Pg Pt Mk Lk Ck Jd Ld Pr)) hE.1 C (c_Tx_kind_1 hE l x2 T1 Sj T0 Rd Pg Pt Mk Lk Ck Jd Ld Pr rt hq1) hP (hDD _ _ _ _ _ _ _ _ _ _ _ _ _) hS hl.1 rfl cw_12 k_6_16 k_4_50 k_4_51 k_1_2 k_4_52 hv_Tx_kind rfl rfl ⟨(Nat.le_of_ble_eq_true rfl), (Nat.le_of_ble_eq_true rfl)⟩ rfl (Nat.le_of_ble_eq_true rfl) ⟨Nat.zero_le _, Nat.zero_le _⟩ rfl d_Jd_isOfType_5 (fun H locs hP hS => ?_)
  by_cases c1 : q1 = (0:Int32)
  · replace h := o_tt c1 h
    refine lv_tableIn (off := 40) (tgt := 48) hx hb d_Jd_isOfType_8 (by rw [c1]; decide) (by rw [c1]; decide) (by rw [c1]; rfl) (by decide) ?_
    refine lv_aload_n hx hb d_Jd_isOfType_48 rfl (lv_at hl 0 rfl) ?_
    refine o_get (v := .ref (ad 1)) C in_Jd hP 49 cw_49 rfl 0 (by decide) k_2_74 rfl rfl d_Jd_isOfType_49 ?_
    refine lv_iload_n hx hb d_Jd_isOfType_52 rfl (lv_at hl 1 rfl) ?_
    refine o_ldcS3 (q := sd 2) hx hb hown (hE.2.2.2.2.2.1 _ _ _ C.2.2.2.2.2.2.2.2.2 ("SchemaJudge$Judge", 283, "null", 2) (List.mem_of_getElem? (i := 19) rfl)) d_Jd_isOfType_53 ?_
    obtain ⟨q2, hq2, h⟩ := o_bd_some h
    refine o_V (st1 := [.int q2]) (w1 := (o_cw ad ca rt Sj T0 T1 Rd Pg Pt Mk Lk Ck Jd Ld Pr)) hE.1 C (c_Tx_spells_0 hE l n x1 2 rfl T0 Sj T1 Rd Pg Pt Mk Lk Ck Jd Ld Pr rt hq2) hP (hDD _ _ _ _ _ _ _ _ _ _ _ _ _) hS hl.1 rfl cw_1 k_6_169 k_4_82 k_4_83 k_1_2 k_4_84 hv_Tx_spells rfl rfl ⟨(Nat.le_of_ble_eq_true rfl), (Nat.le_of_ble_eq_true rfl)⟩ rfl (Nat.le_of_ble_eq_true rfl) ⟨Nat.zero_le _, Nat.zero_le _⟩ rfl d_Jd_isOfType_56 (fun H locs hP hS => ?_)
    obtain ⟨g2, h⟩ := o_gd_some h
    cases h
    exact o_rz C (o_zb_nar g2) hP hS d_Jd_isOfType_59
  replace h := o_ff c1 h
  by_cases c3 : q1 = (1:Int32)
  · replace h := o_tt c3 h
    refine lv_tableIn (off := 52) (tgt := 60) hx hb d_Jd_isOfType_8 (by rw [c3]; decide) (by rw [c3]; decide) (by rw [c3]; rfl) (by decide) ?_
    refine lv_aload_n hx hb d_Jd_isOfType_60 rfl (lv_at hl 0 rfl) ?_
    refine o_get (v := .ref (ad 1)) C in_Jd hP 49 cw_49 rfl 0 (by decide) k_2_74 rfl rfl d_Jd_isOfType_61 ?_
    refine lv_iload_n hx hb d_Jd_isOfType_64 rfl (lv_at hl 1 rfl) ?_
    refine o_ldcS3 (q := sd 11) hx hb hown (hE.2.2.2.2.2.1 _ _ _ C.2.2.2.2.2.2.2.2.2 ("SchemaJudge$Judge", 289, "boolean", 11) (List.mem_of_getElem? (i := 20) rfl)) d_Jd_isOfType_65 ?_
    obtain ⟨q3, hq3, h⟩ := o_bd_some h
    refine o_V (st1 := [.int q3]) (w1 := (o_cw ad ca rt Sj T0 T1 Rd Pg Pt Mk Lk Ck Jd Ld Pr)) hE.1 C (c_Tx_spells_0 hE l n x1 11 rfl T0 Sj T1 Rd Pg Pt Mk Lk Ck Jd Ld Pr rt hq3) hP (hDD _ _ _ _ _ _ _ _ _ _ _ _ _) hS hl.1 rfl cw_1 k_6_169 k_4_82 k_4_83 k_1_2 k_4_84 hv_Tx_spells rfl rfl ⟨(Nat.le_of_ble_eq_true rfl), (Nat.le_of_ble_eq_true rfl)⟩ rfl (Nat.le_of_ble_eq_true rfl) ⟨Nat.zero_le _, Nat.zero_le _⟩ rfl d_Jd_isOfType_68 (fun H locs hP hS => ?_)
    obtain ⟨g4, h⟩ := o_gd_some h
    cases h
    exact o_rz C (o_zb_nar g4) hP hS d_Jd_isOfType_71
  replace h := o_ff c3 h
  by_cases c5 : q1 = (2:Int32)
  · replace h := o_tt c5 h
    refine lv_tableIn (off := 52) (tgt := 60) hx hb d_Jd_isOfType_8 (by rw [c5]; decide) (by rw [c5]; decide) (by rw [c5]; rfl) (by decide) ?_
    refine lv_aload_n hx hb d_Jd_isOfType_60 rfl (lv_at hl 0 rfl) ?_
    refine o_get (v := .ref (ad 1)) C in_Jd hP 49 cw_49 rfl 0 (by decide) k_2_74 rfl rfl d_Jd_isOfType_61 ?_
    refine lv_iload_n hx hb d_Jd_isOfType_64 rfl (lv_at hl 1 rfl) ?_
    refine o_ldcS3 (q := sd 11) hx hb hown (hE.2.2.2.2.2.1 _ _ _ C.2.2.2.2.2.2.2.2.2 ("SchemaJudge$Judge", 289, "boolean", 11) (List.mem_of_getElem? (i := 20) rfl)) d_Jd_isOfType_65 ?_
    obtain ⟨q4, hq4, h⟩ := o_bd_some h
    refine o_V (st1 := [.int q4]) (w1 := (o_cw ad ca rt Sj T0 T1 Rd Pg Pt Mk Lk Ck Jd Ld Pr)) hE.1 C (c_Tx_spells_0 hE l n x1 11 rfl T0 Sj T1 Rd Pg Pt Mk Lk Ck Jd Ld Pr rt hq4) hP (hDD _ _ _ _ _ _ _ _ _ _ _ _ _) hS hl.1 rfl cw_1 k_6_169 k_4_82 k_4_83 k_1_2 k_4_84 hv_Tx_spells rfl rfl ⟨(Nat.le_of_ble_eq_true rfl), (Nat.le_of_ble_eq_true rfl)⟩ rfl (Nat.le_of_ble_eq_true rfl) ⟨Nat.zero_le _, Nat.zero_le _⟩ rfl d_Jd_isOfType_68 (fun H locs hP hS => ?_)
    obtain ⟨g6, h⟩ := o_gd_some h
    cases h
    exact o_rz C (o_zb_nar g6) hP hS d_Jd_isOfType_71
  replace h := o_ff c5 h
  by_cases c7 : q1 = (3:Int32)
  · replace h := o_tt c7 h
    refine lv_tableIn (off := 64) (tgt := 72) hx hb d_Jd_isOfType_8 (by rw [c7]; decide) (by rw [c7]; decide) (by rw [c7]; rfl) (by decide) ?_
    refine lv_aload_n hx hb d_Jd_isOfType_72 rfl (lv_at hl 0 rfl) ?_
    refine o_get (v := .ref (ad 1)) C in_Jd hP 49 cw_49 rfl 0 (by decide) k_2_74 rfl rfl d_Jd_isOfType_73 ?_
    refine lv_iload_n hx hb d_Jd_isOfType_76 rfl (lv_at hl 1 rfl) ?_
    refine o_ldcS3 (q := sd 14) hx hb hown (hE.2.2.2.2.2.1 _ _ _ C.2.2.2.2.2.2.2.2.2 ("SchemaJudge$Judge", 291, "number", 14) (List.mem_of_getElem? (i := 21) rfl)) d_Jd_isOfType_77 ?_
    obtain ⟨q5, hq5, h⟩ := o_bd_some h
    refine o_V (st1 := [.int q5]) (w1 := (o_cw ad ca rt Sj T0 T1 Rd Pg Pt Mk Lk Ck Jd Ld Pr)) hE.1 C (c_Tx_spells_0 hE l n x1 14 rfl T0 Sj T1 Rd Pg Pt Mk Lk Ck Jd Ld Pr rt hq5) hP (hDD _ _ _ _ _ _ _ _ _ _ _ _ _) hS hl.1 rfl cw_1 k_6_169 k_4_82 k_4_83 k_1_2 k_4_84 hv_Tx_spells rfl rfl ⟨(Nat.le_of_ble_eq_true rfl), (Nat.le_of_ble_eq_true rfl)⟩ rfl (Nat.le_of_ble_eq_true rfl) ⟨Nat.zero_le _, Nat.zero_le _⟩ rfl d_Jd_isOfType_80 (fun H locs hP hS => ?_)
    refine lv_if_ne (tgt := 111) hx hb d_Jd_isOfType_83 (by decide) (fun c8 => ?_) (fun c8 => ?_)
    · replace h := o_ff c8 h
      refine lv_iconst (v := (1:Int32)) hx hb d_Jd_isOfType_111 (by decide) ?_
      refine lv_goto (tgt := 116) hx hb d_Jd_isOfType_112 (by decide) ?_
      cases h
      exact o_rz (v := (1:Int32)) C o_nar1 hP hS d_Jd_isOfType_116
    · replace h := o_tt c8 h
      refine lv_aload_n hx hb d_Jd_isOfType_86 rfl (lv_at hl 0 rfl) ?_
      refine o_get (v := .ref (ad 12)) C in_Jd hP 49 cw_49 rfl 2 (by decide) k_2_76 rfl rfl d_Jd_isOfType_87 ?_
      refine lv_iload_n hx hb d_Jd_isOfType_90 rfl (lv_at hl 2 rfl) ?_
      obtain ⟨q6, hq6, h⟩ := o_bd_some h
      refine o_V (st1 := [.int q6]) (w1 := (o_cw ad ca rt Sj T0 T1 Rd Pg Pt Mk Lk Ck Jd Ld Pr)) hE.1 C (c_Tx_exponent_1 hE l x2 T1 Sj T0 Rd Pg Pt Mk Lk Ck Jd Ld Pr rt hq6) hP (hDD _ _ _ _ _ _ _ _ _ _ _ _ _) hS hl.1 rfl cw_12 k_6_172 k_5_67 k_5_68 k_1_2 k_5_69 hv_Tx_exponent rfl rfl ⟨(Nat.le_of_ble_eq_true rfl), (Nat.le_of_ble_eq_true rfl)⟩ rfl (Nat.le_of_ble_eq_true rfl) ⟨Nat.zero_le _, Nat.zero_le _⟩ rfl d_Jd_isOfType_91 (fun H locs hP hS => ?_)
      refine lv_if_lt (tgt := 115) hx hb d_Jd_isOfType_94 (by decide) (fun c9 => ?_) (fun c9 => ?_)
      · replace h := o_tt c9 h
        refine lv_iconst (v := (0:Int32)) hx hb d_Jd_isOfType_115 (by decide) ?_
        cases h
        exact o_rz (v := (0:Int32)) C o_nar0 hP hS d_Jd_isOfType_116
      · replace h := o_ff c9 h
        refine lv_aload_n hx hb d_Jd_isOfType_97 rfl (lv_at hl 0 rfl) ?_
        refine o_get (v := .ref (ad 1)) C in_Jd hP 49 cw_49 rfl 0 (by decide) k_2_74 rfl rfl d_Jd_isOfType_98 ?_
        refine lv_iload_n hx hb d_Jd_isOfType_101 rfl (lv_at hl 1 rfl) ?_
        refine o_ldcS3 (q := sd 16) hx hb hown (hE.2.2.2.2.2.1 _ _ _ C.2.2.2.2.2.2.2.2.2 ("SchemaJudge$Judge", 296, "integer", 16) (List.mem_of_getElem? (i := 22) rfl)) d_Jd_isOfType_102 ?_
        obtain ⟨q7, hq7, h⟩ := o_bd_some h
        refine o_V (st1 := [.int q7]) (w1 := (o_cw ad ca rt Sj T0 T1 Rd Pg Pt Mk Lk Ck Jd Ld Pr)) hE.1 C (c_Tx_spells_0 hE l n x1 16 rfl T0 Sj T1 Rd Pg Pt Mk Lk Ck Jd Ld Pr rt hq7) hP (hDD _ _ _ _ _ _ _ _ _ _ _ _ _) hS hl.1 rfl cw_1 k_6_169 k_4_82 k_4_83 k_1_2 k_4_84 hv_Tx_spells rfl rfl ⟨(Nat.le_of_ble_eq_true rfl), (Nat.le_of_ble_eq_true rfl)⟩ rfl (Nat.le_of_ble_eq_true rfl) ⟨Nat.zero_le _, Nat.zero_le _⟩ rfl d_Jd_isOfType_105 (fun H locs hP hS => ?_)
        refine lv_if_eq (tgt := 115) hx hb d_Jd_isOfType_108 (by decide) (fun c10 => ?_) (fun c10 => ?_)
        · replace h := o_tt c10 h
          refine lv_iconst (v := (0:Int32)) hx hb d_Jd_isOfType_115 (by decide) ?_
          cases h
          exact o_rz (v := (0:Int32)) C o_nar0 hP hS d_Jd_isOfType_116
        · replace h := o_ff c10 h
          refine lv_iconst (v := (1:Int32)) hx hb d_Jd_isOfType_111 (by decide) ?_
          refine lv_goto (tgt := 116) hx hb d_Jd_isOfType_112 (by decide) ?_
          cases h
          exact o_rz (v := (1:Int32)) C o_nar1 hP hS d_Jd_isOfType_116
  replace h := o_ff c7 h
  by_cases c11 : q1 = (4:Int32)
  · replace h := o_tt c11 h
    refine lv_tableIn (off := 109) (tgt := 117) hx hb d_Jd_isOfType_8 (by rw [c11]; decide) (by rw [c11]; decide) (by rw [c11]; rfl) (by decide) ?_
    refine lv_aload_n hx hb d_Jd_isOfType_117 rfl (lv_at hl 0 rfl) ?_
    refine o_get (v := .ref (ad 1)) C in_Jd hP 49 cw_49 rfl 0 (by decide) k_2_74 rfl rfl d_Jd_isOfType_118 ?_
    refine lv_iload_n hx hb d_Jd_isOfType_121 rfl (lv_at hl 1 rfl) ?_
    refine o_ldcS3 (q := sd 15) hx hb hown (hE.2.2.2.2.2.1 _ _ _ C.2.2.2.2.2.2.2.2.2 ("SchemaJudge$Judge", 298, "string", 15) (List.mem_of_getElem? (i := 23) rfl)) d_Jd_isOfType_122 ?_
    obtain ⟨q8, hq8, h⟩ := o_bd_some h
    refine o_V (st1 := [.int q8]) (w1 := (o_cw ad ca rt Sj T0 T1 Rd Pg Pt Mk Lk Ck Jd Ld Pr)) hE.1 C (c_Tx_spells_0 hE l n x1 15 rfl T0 Sj T1 Rd Pg Pt Mk Lk Ck Jd Ld Pr rt hq8) hP (hDD _ _ _ _ _ _ _ _ _ _ _ _ _) hS hl.1 rfl cw_1 k_6_169 k_4_82 k_4_83 k_1_2 k_4_84 hv_Tx_spells rfl rfl ⟨(Nat.le_of_ble_eq_true rfl), (Nat.le_of_ble_eq_true rfl)⟩ rfl (Nat.le_of_ble_eq_true rfl) ⟨Nat.zero_le _, Nat.zero_le _⟩ rfl d_Jd_isOfType_125 (fun H locs hP hS => ?_)
    obtain ⟨g12, h⟩ := o_gd_some h
    cases h
    exact o_rz C (o_zb_nar g12) hP hS d_Jd_isOfType_128
  replace h := o_ff c11 h
  by_cases c13 : q1 = (5:Int32)
  · replace h := o_tt c13 h
    refine lv_tableIn (off := 121) (tgt := 129) hx hb d_Jd_isOfType_8 (by rw [c13]; decide) (by rw [c13]; decide) (by rw [c13]; rfl) (by decide) ?_
    refine lv_aload_n hx hb d_Jd_isOfType_129 rfl (lv_at hl 0 rfl) ?_
    refine o_get (v := .ref (ad 1)) C in_Jd hP 49 cw_49 rfl 0 (by decide) k_2_74 rfl rfl d_Jd_isOfType_130 ?_
    refine lv_iload_n hx hb d_Jd_isOfType_133 rfl (lv_at hl 1 rfl) ?_
    refine o_ldcS3 (q := sd 13) hx hb hown (hE.2.2.2.2.2.1 _ _ _ C.2.2.2.2.2.2.2.2.2 ("SchemaJudge$Judge", 300, "array", 13) (List.mem_of_getElem? (i := 24) rfl)) d_Jd_isOfType_134 ?_
    obtain ⟨q9, hq9, h⟩ := o_bd_some h
    refine o_V (st1 := [.int q9]) (w1 := (o_cw ad ca rt Sj T0 T1 Rd Pg Pt Mk Lk Ck Jd Ld Pr)) hE.1 C (c_Tx_spells_0 hE l n x1 13 rfl T0 Sj T1 Rd Pg Pt Mk Lk Ck Jd Ld Pr rt hq9) hP (hDD _ _ _ _ _ _ _ _ _ _ _ _ _) hS hl.1 rfl cw_1 k_6_169 k_4_82 k_4_83 k_1_2 k_4_84 hv_Tx_spells rfl rfl ⟨(Nat.le_of_ble_eq_true rfl), (Nat.le_of_ble_eq_true rfl)⟩ rfl (Nat.le_of_ble_eq_true rfl) ⟨Nat.zero_le _, Nat.zero_le _⟩ rfl d_Jd_isOfType_137 (fun H locs hP hS => ?_)
    obtain ⟨g14, h⟩ := o_gd_some h
    cases h
    exact o_rz C (o_zb_nar g14) hP hS d_Jd_isOfType_140
  replace h := o_ff c13 h
  refine lv_tableOut (tgt := 141) hx hb d_Jd_isOfType_8 (by have ec1 := o_ne_i (n := 0) (by decide) c1; have ec3 := o_ne_i (n := 1) (by decide) c3; have ec5 := o_ne_i (n := 2) (by decide) c5; have ec7 := o_ne_i (n := 3) (by decide) c7; have ec11 := o_ne_i (n := 4) (by decide) c11; have ec13 := o_ne_i (n := 5) (by decide) c13; omega) (by decide) ?_
  refine lv_aload_n hx hb d_Jd_isOfType_141 rfl (lv_at hl 0 rfl) ?_
  refine o_get (v := .ref (ad 1)) C in_Jd hP 49 cw_49 rfl 0 (by decide) k_2_74 rfl rfl d_Jd_isOfType_142 ?_
  refine lv_iload_n hx hb d_Jd_isOfType_145 rfl (lv_at hl 1 rfl) ?_
  refine o_ldcS3 (q := sd 12) hx hb hown (hE.2.2.2.2.2.1 _ _ _ C.2.2.2.2.2.2.2.2.2 ("SchemaJudge$Judge", 302, "object", 12) (List.mem_of_getElem? (i := 25) rfl)) d_Jd_isOfType_146 ?_
  obtain ⟨q10, hq10, h⟩ := o_bd_some h
  refine o_V (st1 := [.int q10]) (w1 := (o_cw ad ca rt Sj T0 T1 Rd Pg Pt Mk Lk Ck Jd Ld Pr)) hE.1 C (c_Tx_spells_0 hE l n x1 12 rfl T0 Sj T1 Rd Pg Pt Mk Lk Ck Jd Ld Pr rt hq10) hP (hDD _ _ _ _ _ _ _ _ _ _ _ _ _) hS hl.1 rfl cw_1 k_6_169 k_4_82 k_4_83 k_1_2 k_4_84 hv_Tx_spells rfl rfl ⟨(Nat.le_of_ble_eq_true rfl), (Nat.le_of_ble_eq_true rfl)⟩ rfl (Nat.le_of_ble_eq_true rfl) ⟨Nat.zero_le _, Nat.zero_le _⟩ rfl d_Jd_isOfType_149 (fun H locs hP hS => ?_)
  obtain ⟨g15, h⟩ := o_gd_some h
  cases h
  exact o_rz C (o_zb_nar g15) hP hS d_Jd_isOfType_152
set_option maxHeartbeats 4000000 in
set_option maxRecDepth 100000 in
theorem w_Jd_hasType_b31 {E : (Nat → Prop) → State → Heap → Prop} {p : Program} {l : Launch} {e : Env} {s : State} {m : MethodId} {args : Array Value} {below : List Frame} {meth : Method} {c : Code} {D : va_G} {ad kd sd vd xd : Nat → Nat} {ca : Nat → ClassId} {A : Nat → Prop} {Q : State → Prop} (hE : o_EK E kd sd vd xd) (C : o_Cx E p s m args meth c D o_cls (o_tys ca) "SchemaJudge$Judge" b_Jd_hasType (some .boolean) 5 cc_Jd_hasType A) (hDD : ∀ (rt : Nat) (Sj : SSJ) (T0 : STx) (T1 : STx) (Rd : SRd) (Pg : SPg) (Pt : SPt) (Mk : SMk) (Lk : SLk) (Ck : SCk) (Jd : SJd) (Ld : SLd) (Pr : SPr), va_D A (o_cw ad ca rt Sj T0 T1 Rd Pg Pt Mk Lk Ck Jd Ld Pr)) (n : Nat) (u31_x1 : Int32) (u31_x2 : Int32) (u31_T0 : STx) (u31_T1 : STx) (u31_Sj : SSJ) (u31_Rd : SRd) (u31_Pg : SPg) (u31_Pt : SPt) (u31_Mk : SMk) (u31_Lk : SLk) (u31_Ck : SCk) (u31_Jd : SJd) (u31_Ld : SLd) (u31_Pr : SPr) (u31_rt : Nat) (z : Int32 × Int32) (q : Nat × Int32 × Int32) (h : m_Jd_hasType_b31 n u31_x1 u31_x2 u31_T0 u31_T1 z = some q) (h0 : q.1 = 0 → o_At p l e rm_Jd_hasType s m args below meth c Q o_cls D A 5 31 [] (o_cw ad ca u31_rt u31_Sj u31_T0 u31_T1 u31_Rd u31_Pg u31_Pt u31_Mk u31_Lk u31_Ck u31_Jd u31_Ld u31_Pr) [(0, .ref (ad 49)), (1, .int u31_x1), (2, .int u31_x2), (3, .int q.2.1), (4, .int q.2.2)]) (h1 : q.1 ≠ 0 → (if q.1 = 1 then o_At p l e rm_Jd_hasType s m args below meth c Q o_cls D A 5 53 [] (o_cw ad ca u31_rt u31_Sj u31_T0 u31_T1 u31_Rd u31_Pg u31_Pt u31_Mk u31_Lk u31_Ck u31_Jd u31_Ld u31_Pr) [] else o_At p l e rm_Jd_hasType s m args below meth c Q o_cls D A 5 70 [] (o_cw ad ca u31_rt u31_Sj u31_T0 u31_T1 u31_Rd u31_Pg u31_Pt u31_Mk u31_Lk u31_Ck u31_Jd u31_Ld u31_Pr) [])) : o_At p l e rm_Jd_hasType s m args below meth c Q o_cls D A 5 31 [] (o_cw ad ca u31_rt u31_Sj u31_T0 u31_T1 u31_Rd u31_Pg u31_Pt u31_Mk u31_Lk u31_Ck u31_Jd u31_Ld u31_Pr) [(0, .ref (ad 49)), (1, .int u31_x1), (2, .int u31_x2), (3, .int z.1), (4, .int z.2)] := by
  unfold m_Jd_hasType_b31 at h
  intro H locs ls hP hS hl
  have C0 := C
  obtain ⟨hx, hb, -, -, -, hown, hts, hK, -, -⟩ := C0
  refine lv_iload hx hb d_Jd_hasType_31 (lv_at hl 4 rfl) ?_
  refine lv_aload_n hx hb d_Jd_hasType_33 rfl (lv_at hl 0 rfl) ?_
  refine o_get (v := .ref (ad 1)) C in_Jd hP 49 cw_49 rfl 0 (by decide) k_2_74 rfl rfl d_Jd_hasType_34 ?_
  refine lv_iload_n hx hb d_Jd_hasType_37 rfl (lv_at hl 1 rfl) ?_
  obtain ⟨q3, hq3, h⟩ := o_bd_some h
  refine o_V (st1 := [.int q3, .int z.2]) (w1 := (o_cw ad ca u31_rt u31_Sj u31_T0 u31_T1 u31_Rd u31_Pg u31_Pt u31_Mk u31_Lk u31_Ck u31_Jd u31_Ld u31_Pr)) hE.1 C (c_Tx_size_0 hE l u31_x1 u31_T0 u31_Sj u31_T1 u31_Rd u31_Pg u31_Pt u31_Mk u31_Lk u31_Ck u31_Jd u31_Ld u31_Pr u31_rt hq3) hP (hDD _ _ _ _ _ _ _ _ _ _ _ _ _) hS hl.1 rfl cw_1 k_6_26 k_3_215 k_3_216 k_1_2 k_3_217 hv_Tx_size rfl rfl ⟨(Nat.le_of_ble_eq_true rfl), (Nat.le_of_ble_eq_true rfl)⟩ rfl (Nat.le_of_ble_eq_true rfl) ⟨Nat.zero_le _, Nat.zero_le _⟩ rfl d_Jd_hasType_38 (fun H locs hP hS => ?_)
  refine lv_icmp_ge (tgt := 70) hx hb d_Jd_hasType_41 (by decide) (fun c2 => ?_) (fun c2 => ?_)
  · replace h := o_tt c2 h
    cases h
    exact h1 (Nat.succ_ne_zero 1) _ _ _ hP hS (lv_sub hl [] rfl)
  · replace h := o_ff c2 h
    refine lv_aload_n hx hb d_Jd_hasType_44 rfl (lv_at hl 0 rfl) ?_
    refine lv_iload_n hx hb d_Jd_hasType_45 rfl (lv_at hl 3 rfl) ?_
    refine lv_iload_n hx hb d_Jd_hasType_46 rfl (lv_at hl 2 rfl) ?_
    obtain ⟨q4, hq4, h⟩ := o_bd_some h
    refine o_V (st1 := [.int q4]) (w1 := (o_cw ad ca u31_rt u31_Sj u31_T0 u31_T1 u31_Rd u31_Pg u31_Pt u31_Mk u31_Lk u31_Ck u31_Jd u31_Ld u31_Pr)) hE.1 C (c_Jd_isOfType hE l n z.1 u31_x2 u31_T0 u31_T1 u31_Sj u31_Rd u31_Pg u31_Pt u31_Mk u31_Lk u31_Ck u31_Jd u31_Ld u31_Pr u31_rt hq4) hP (hDD _ _ _ _ _ _ _ _ _ _ _ _ _) hS hl.1 rfl cw_49 k_6_164 k_6_166 k_s_73 k_1_9 k_6_167 hv_Jd_isOfType rfl rfl ⟨(Nat.le_of_ble_eq_true rfl), (Nat.le_of_ble_eq_true rfl)⟩ rfl (Nat.le_of_ble_eq_true rfl) ⟨Nat.zero_le _, Nat.zero_le _⟩ rfl d_Jd_hasType_47 (fun H locs hP hS => ?_)
    refine lv_if_eq (tgt := 55) hx hb d_Jd_hasType_50 (by decide) (fun c3 => ?_) (fun c3 => ?_)
    · replace h := o_tt c3 h
      refine lv_aload_n hx hb d_Jd_hasType_55 rfl (lv_at hl 0 rfl) ?_
      refine o_get (v := .ref (ad 1)) C in_Jd hP 49 cw_49 rfl 0 (by decide) k_2_74 rfl rfl d_Jd_hasType_56 ?_
      refine lv_iload_n hx hb d_Jd_hasType_59 rfl (lv_at hl 3 rfl) ?_
      obtain ⟨q5, hq5, h⟩ := o_bd_some h
      refine o_V (st1 := [.int q5]) (w1 := (o_cw ad ca u31_rt u31_Sj u31_T0 u31_T1 u31_Rd u31_Pg u31_Pt u31_Mk u31_Lk u31_Ck u31_Jd u31_Ld u31_Pr)) hE.1 C (c_Tx_nextChild_0 hE l z.1 u31_T0 u31_Sj u31_T1 u31_Rd u31_Pg u31_Pt u31_Mk u31_Lk u31_Ck u31_Jd u31_Ld u31_Pr u31_rt hq5) hP (hDD _ _ _ _ _ _ _ _ _ _ _ _ _) hS hl.1 rfl cw_1 k_6_28 k_3_222 k_3_223 k_1_2 k_3_224 hv_Tx_nextChild rfl rfl ⟨(Nat.le_of_ble_eq_true rfl), (Nat.le_of_ble_eq_true rfl)⟩ rfl (Nat.le_of_ble_eq_true rfl) ⟨Nat.zero_le _, Nat.zero_le _⟩ rfl d_Jd_hasType_60 (fun H locs hP hS => ?_)
      refine lv_istore_n (lv' := [(3, .int q5), (0, .ref (ad 49)), (1, .int u31_x1), (2, .int u31_x2), (4, .int z.2)]) hx hb d_Jd_hasType_63 rfl hl (by decide) rfl (fun ls hl => ?_)
      obtain ⟨x4_64, ex4_64⟩ : ∃ y : Int32, y = z.2 + (1:Int32) := ⟨_, rfl⟩
      replace h := o_nm_at ex4_64 h
      refine lv_iinc (v := x4_64) (lv' := [(4, .int x4_64), (3, .int q5), (0, .ref (ad 49)), (1, .int u31_x1), (2, .int u31_x2)]) hx hb d_Jd_hasType_64 hl (k := 4) rfl (by rw [ex4_64]; rfl) (by decide) rfl (fun ls hl => ?_)
      refine lv_goto (tgt := 31) hx hb d_Jd_hasType_67 (by decide) ?_
      cases h
      exact h0 rfl _ _ _ hP hS (lv_sub hl [2, 3, 4, 1, 0] rfl)
    · replace h := o_ff c3 h
      cases h
      exact h1 (Nat.succ_ne_zero 0) _ _ _ hP hS (lv_sub hl [] rfl)
set_option maxHeartbeats 4000000 in
set_option maxRecDepth 100000 in
theorem c_Jd_hasType {E : (Nat → Prop) → State → Heap → Prop} {D : va_G} {ad kd sd vd xd : Nat → Nat} {ca : Nat → ClassId} (hE : o_EK E kd sd vd xd) (l : Launch) (n : Nat) (x1 : Int32) (x2 : Int32) (T0 : STx) (T1 : STx) (Sj : SSJ) (Rd : SRd) (Pg : SPg) (Pt : SPt) (Mk : SMk) (Lk : SLk) (Ck : SCk) (Jd : SJd) (Ld : SLd) (Pr : SPr) (rt : Nat) {r : Int32} (h : m_Jd_hasType n x1 x2 T0 T1 = some r) : o_Cn E l D o_cls (o_tys ca) y_Jd_hasType cc_Jd_hasType rm_Jd_hasType [.ref (ad 49), .int x1, .int x2] (o_cw ad ca rt Sj T0 T1 Rd Pg Pt Mk Lk Ck Jd Ld Pr) (o_cw ad ca rt Sj T0 T1 Rd Pg Pt Mk Lk Ck Jd Ld Pr) (some (.int r)) := by
  refine o_Cn_of (by decide) (Nat.le_of_ble_eq_true rfl) ?_
  intro p e s m below meth c A ls C hD hP hS hl
  have hDD : ∀ (rt : Nat) (Sj : SSJ) (T0 : STx) (T1 : STx) (Rd : SRd) (Pg : SPg) (Pt : SPt) (Mk : SMk) (Lk : SLk) (Ck : SCk) (Jd : SJd) (Ld : SLd) (Pr : SPr), va_D A (o_cw ad ca rt Sj T0 T1 Rd Pg Pt Mk Lk Ck Jd Ld Pr) := fun _ _ _ _ _ _ _ _ _ _ _ _ _ => o_D_map hD rfl
  have hl : lv_has ls 5 [(0, .ref (ad 49)), (1, .int x1), (2, .int x2)] := hl
  unfold m_Jd_hasType at h
  have C0 := C
  obtain ⟨hx, hb, -, -, -, hown, hts, hK, -, -⟩ := C0
  refine lv_aload_n hx hb d_Jd_hasType_0 rfl (lv_at hl 0 rfl) ?_
  refine o_get (v := .ref (ad 1)) C in_Jd hP 49 cw_49 rfl 0 (by decide) k_2_74 rfl rfl d_Jd_hasType_1 ?_
  refine lv_iload_n hx hb d_Jd_hasType_4 rfl (lv_at hl 1 rfl) ?_
  obtain ⟨q1, hq1, h⟩ := o_bd_some h
  refine o_V (st1 := [.int q1]) (w1 := (o_cw ad ca rt Sj T0 T1 Rd Pg Pt Mk Lk Ck Jd Ld Pr)) hE.1 C (c_Tx_kind_0 hE l x1 T0 Sj T1 Rd Pg Pt Mk Lk Ck Jd Ld Pr rt hq1) hP (hDD _ _ _ _ _ _ _ _ _ _ _ _ _) hS hl.1 rfl cw_1 k_6_16 k_4_50 k_4_51 k_1_2 k_4_52 hv_Tx_kind rfl rfl ⟨(Nat.le_of_ble_eq_true rfl), (Nat.le_of_ble_eq_true rfl)⟩ rfl (Nat.le_of_ble_eq_true rfl) ⟨Nat.zero_le _, Nat.zero_le _⟩ rfl d_Jd_hasType_5 (fun H locs hP hS => ?_)
  refine lv_iconst (v := (4:Int32)) hx hb d_Jd_hasType_8 (by decide) ?_
  refine lv_icmp_ne (tgt := 19) hx hb d_Jd_hasType_9 (by decide) (fun c1 => ?_) (fun c1 => ?_)
  · replace h := o_ff c1 h
    refine lv_aload_n hx hb d_Jd_hasType_19 rfl (lv_at hl 0 rfl) ?_
    refine o_get (v := .ref (ad 1)) C in_Jd hP 49 cw_49 rfl 0 (by decide) k_2_74 rfl rfl d_Jd_hasType_20 ?_
    refine lv_iload_n hx hb d_Jd_hasType_23 rfl (lv_at hl 1 rfl) ?_
    obtain ⟨q2, hq2, h⟩ := o_bd_some h
    refine o_V (st1 := [.int q2]) (w1 := (o_cw ad ca rt Sj T0 T1 Rd Pg Pt Mk Lk Ck Jd Ld Pr)) hE.1 C (c_Tx_firstChild_0 hE l x1 T0 Sj T1 Rd Pg Pt Mk Lk Ck Jd Ld Pr rt hq2) hP (hDD _ _ _ _ _ _ _ _ _ _ _ _ _) hS hl.1 rfl cw_1 k_6_25 k_3_211 k_3_212 k_1_2 k_3_213 hv_Tx_firstChild rfl rfl ⟨(Nat.le_of_ble_eq_true rfl), (Nat.le_of_ble_eq_true rfl)⟩ rfl (Nat.le_of_ble_eq_true rfl) ⟨Nat.zero_le _, Nat.zero_le _⟩ rfl d_Jd_hasType_24 (fun H locs hP hS => ?_)
    refine lv_istore_n (lv' := [(3, .int q2), (0, .ref (ad 49)), (1, .int x1), (2, .int x2)]) hx hb d_Jd_hasType_27 rfl hl (by decide) rfl (fun ls hl => ?_)
    refine lv_iconst (v := (0:Int32)) hx hb d_Jd_hasType_28 (by decide) ?_
    refine lv_istore (lv' := [(4, .int (0:Int32)), (3, .int q2), (0, .ref (ad 49)), (1, .int x1), (2, .int x2)]) hx hb d_Jd_hasType_29 hl (by decide) rfl (fun ls hl => ?_)
    obtain ⟨q6, hq6, h⟩ := o_bd_some h
    refine o_sim2 (AH := fun zz => o_At p l e rm_Jd_hasType s m _ below meth c _ o_cls D A 5 31 [] (o_cw ad ca rt Sj T0 T1 Rd Pg Pt Mk Lk Ck Jd Ld Pr) [(0, .ref (ad 49)), (1, .int x1), (2, .int x2), (3, .int zz.1), (4, .int zz.2)]) (AX := fun qq => if qq.1 = 1 then o_At p l e rm_Jd_hasType s m _ below meth c _ o_cls D A 5 53 [] (o_cw ad ca rt Sj T0 T1 Rd Pg Pt Mk Lk Ck Jd Ld Pr) [] else o_At p l e rm_Jd_hasType s m _ below meth c _ o_cls D A 5 70 [] (o_cw ad ca rt Sj T0 T1 Rd Pg Pt Mk Lk Ck Jd Ld Pr) []) (fun zz qq h h0 h1 => w_Jd_hasType_b31 hE C hDD n x1 x2 T0 T1 Sj Rd Pg Pt Mk Lk Ck Jd Ld Pr rt zz qq h h0 h1) n _ q6 hq6 ?_ _ _ _ hP hS (lv_sub hl [2, 3, 4, 1, 0] rfl)
    by_cases c4 : q6.1 = 1
    · replace h := o_tt c4 h
      refine o_ip c4 ?_
      intro H locs ls hP hS hl
      refine lv_iconst (v := (1:Int32)) hx hb d_Jd_hasType_53 (by decide) ?_
      cases h
      exact o_rz (v := (1:Int32)) C o_nar1 hP hS d_Jd_hasType_54
    replace h := o_ff c4 h
    refine o_in_ c4 ?_
    intro H locs ls hP hS hl
    refine lv_iconst (v := (0:Int32)) hx hb d_Jd_hasType_70 (by decide) ?_
    cases h
    exact o_rz (v := (0:Int32)) C o_nar0 hP hS d_Jd_hasType_71
  · replace h := o_tt c1 h
    refine lv_aload_n hx hb d_Jd_hasType_12 rfl (lv_at hl 0 rfl) ?_
    refine lv_iload_n hx hb d_Jd_hasType_13 rfl (lv_at hl 1 rfl) ?_
    refine lv_iload_n hx hb d_Jd_hasType_14 rfl (lv_at hl 2 rfl) ?_
    obtain ⟨q7, hq7, h⟩ := o_bd_some h
    refine o_V (st1 := [.int q7]) (w1 := (o_cw ad ca rt Sj T0 T1 Rd Pg Pt Mk Lk Ck Jd Ld Pr)) hE.1 C (c_Jd_isOfType hE l n x1 x2 T0 T1 Sj Rd Pg Pt Mk Lk Ck Jd Ld Pr rt hq7) hP (hDD _ _ _ _ _ _ _ _ _ _ _ _ _) hS hl.1 rfl cw_49 k_6_164 k_6_166 k_s_73 k_1_9 k_6_167 hv_Jd_isOfType rfl rfl ⟨(Nat.le_of_ble_eq_true rfl), (Nat.le_of_ble_eq_true rfl)⟩ rfl (Nat.le_of_ble_eq_true rfl) ⟨Nat.zero_le _, Nat.zero_le _⟩ rfl d_Jd_hasType_15 (fun H locs hP hS => ?_)
    obtain ⟨g5, h⟩ := o_gd_some h
    cases h
    exact o_rz C (o_zb_nar g5) hP hS d_Jd_hasType_18
set_option maxHeartbeats 4000000 in
set_option maxRecDepth 100000 in
theorem c_Tx_sign_1 {E : (Nat → Prop) → State → Heap → Prop} {D : va_G} {ad kd sd vd xd : Nat → Nat} {ca : Nat → ClassId} (hE : o_EK E kd sd vd xd) (l : Launch) (x1 : Int32) (a0 : STx) (Sj : SSJ) (T0 : STx) (Rd : SRd) (Pg : SPg) (Pt : SPt) (Mk : SMk) (Lk : SLk) (Ck : SCk) (Jd : SJd) (Ld : SLd) (Pr : SPr) (rt : Nat) {r : Int32} (h : m_Tx_sign x1 a0 = some r) : o_Cn E l D o_cls (o_tys ca) y_Tx_sign cc_Tx_sign rm_Tx_sign [.ref (ad 12), .int x1] (o_cw ad ca rt Sj T0 a0 Rd Pg Pt Mk Lk Ck Jd Ld Pr) (o_cw ad ca rt Sj T0 a0 Rd Pg Pt Mk Lk Ck Jd Ld Pr) (some (.int r)) := by
  refine o_Cn_of (by decide) (Nat.le_of_ble_eq_true rfl) ?_
  intro p e s m below meth c A ls C hD hP hS hl
  have hDD : ∀ (rt : Nat) (Sj : SSJ) (T0 : STx) (T1 : STx) (Rd : SRd) (Pg : SPg) (Pt : SPt) (Mk : SMk) (Lk : SLk) (Ck : SCk) (Jd : SJd) (Ld : SLd) (Pr : SPr), va_D A (o_cw ad ca rt Sj T0 T1 Rd Pg Pt Mk Lk Ck Jd Ld Pr) := fun _ _ _ _ _ _ _ _ _ _ _ _ _ => o_D_map hD rfl
  have hl : lv_has ls 2 [(0, .ref (ad 12)), (1, .int x1)] := hl
  unfold m_Tx_sign at h
  have C0 := C
  obtain ⟨hx, hb, -, -, -, hown, hts, hK, -, -⟩ := C0
  refine lv_iload_n hx hb d_Tx_sign_0 rfl (lv_at hl 1 rfl) ?_
  refine lv_if_lt (tgt := 21) hx hb d_Tx_sign_1 (by decide) (fun c1 => ?_) (fun c1 => ?_)
  · replace h := o_tt c1 h
    refine lv_iconst (v := (0:Int32)) hx hb d_Tx_sign_21 (by decide) ?_
    cases h
    exact o_ri (v := (0:Int32)) C hP hS d_Tx_sign_22
  · replace h := o_ff c1 h
    refine lv_iload_n hx hb d_Tx_sign_4 rfl (lv_at hl 1 rfl) ?_
    refine lv_aload_n hx hb d_Tx_sign_5 rfl (lv_at hl 0 rfl) ?_
    refine o_get (v := .int (Tx_total a0)) C in_Tx hP 12 cw_12 rfl 10 (by decide) k_1_56 rfl rfl d_Tx_sign_6 ?_
    refine lv_icmp_ge (tgt := 21) hx hb d_Tx_sign_9 (by decide) (fun c2 => ?_) (fun c2 => ?_)
    · replace h := o_tt c2 h
      refine lv_iconst (v := (0:Int32)) hx hb d_Tx_sign_21 (by decide) ?_
      cases h
      exact o_ri (v := (0:Int32)) C hP hS d_Tx_sign_22
    · replace h := o_ff c2 h
      refine lv_aload_n hx hb d_Tx_sign_12 rfl (lv_at hl 0 rfl) ?_
      refine o_get (v := .ref (ad 15)) C in_Tx hP 12 cw_12 rfl 2 (by decide) k_1_48 rfl rfl d_Tx_sign_13 ?_
      refine lv_iload_n hx hb d_Tx_sign_16 rfl (lv_at hl 1 rfl) ?_
      obtain ⟨g3, h⟩ := o_gd_some h
      refine o_iald (f := (Tx_sizes a0)) C hP 15 12 cw_15 rfl g3 d_Tx_sign_17 ?_
      refine lv_if_ne (tgt := 23) hx hb d_Tx_sign_18 (by decide) (fun c4 => ?_) (fun c4 => ?_)
      · replace h := o_ff c4 h
        refine lv_aload_n hx hb d_Tx_sign_23 rfl (lv_at hl 0 rfl) ?_
        refine o_get (v := .ref (ad 21)) C in_Tx hP 12 cw_12 rfl 8 (by decide) k_1_54 rfl rfl d_Tx_sign_24 ?_
        refine lv_iload_n hx hb d_Tx_sign_27 rfl (lv_at hl 1 rfl) ?_
        obtain ⟨g5, h⟩ := o_gd_some h
        refine o_zald (f := (Tx_negatives a0)) C hP 21 18 cw_21 rfl g5 d_Tx_sign_28 ?_
        refine lv_if_eq (tgt := 36) hx hb d_Tx_sign_29 (by decide) (fun c6 => ?_) (fun c6 => ?_)
        · replace h := o_tt c6 h
          refine lv_iconst (v := (1:Int32)) hx hb d_Tx_sign_36 (by decide) ?_
          cases h
          exact o_ri (v := (1:Int32)) C hP hS d_Tx_sign_37
        · replace h := o_ff c6 h
          refine lv_iconst (v := (-1:Int32)) hx hb d_Tx_sign_32 (by decide) ?_
          refine lv_goto (tgt := 37) hx hb d_Tx_sign_33 (by decide) ?_
          cases h
          exact o_ri (v := (-1:Int32)) C hP hS d_Tx_sign_37
      · replace h := o_tt c4 h
        refine lv_iconst (v := (0:Int32)) hx hb d_Tx_sign_21 (by decide) ?_
        cases h
        exact o_ri (v := (0:Int32)) C hP hS d_Tx_sign_22
set_option maxHeartbeats 4000000 in
set_option maxRecDepth 100000 in
theorem w_Tx_compare_j22_01 {E : (Nat → Prop) → State → Heap → Prop} {p : Program} {l : Launch} {e : Env} {s : State} {m : MethodId} {args : Array Value} {below : List Frame} {meth : Method} {c : Code} {D : va_G} {ad kd sd vd xd : Nat → Nat} {ca : Nat → ClassId} {A : Nat → Prop} (hE : o_EK E kd sd vd xd) (C : o_Cx E p s m args meth c D o_cls (o_tys ca) "SchemaJudge$Text" b_Tx_compare (some .int) 10 cc_Tx_compare A) (hDD : ∀ (rt : Nat) (Sj : SSJ) (T0 : STx) (T1 : STx) (Rd : SRd) (Pg : SPg) (Pt : SPt) (Mk : SMk) (Lk : SLk) (Ck : SCk) (Jd : SJd) (Ld : SLd) (Pr : SPr), va_D A (o_cw ad ca rt Sj T0 T1 Rd Pg Pt Mk Lk Ck Jd Ld Pr)) (n : Nat) (x3 : Int32) (x4 : Int32) (a0 : STx) (a2 : STx) (Sj : SSJ) (Rd : SRd) (Pg : SPg) (Pt : SPt) (Mk : SMk) (Lk : SLk) (Ck : SCk) (Jd : SJd) (Ld : SLd) (Pr : SPr) (rt : Nat) {r : Int32} (h : m_Tx_compare_j22 n x3 x4 a0 a2 = some r) : o_At p l e rm_Tx_compare s m args below meth c (MQ below (o_Qx D o_cls (some (.int r)) (o_cw ad ca rt Sj a0 a2 Rd Pg Pt Mk Lk Ck Jd Ld Pr) A) args s 0 0 A) o_cls D A 10 22 [] (o_cw ad ca rt Sj a0 a2 Rd Pg Pt Mk Lk Ck Jd Ld Pr) [(2, .ref (ad 12)), (3, .int x3), (4, .int x4)] := by
  unfold m_Tx_compare_j22 at h
  intro H locs ls hP hS hl
  have C0 := C
  obtain ⟨hx, hb, -, -, -, hown, hts, hK, -, -⟩ := C0
  refine lv_iload hx hb d_Tx_compare_22 (lv_at hl 2 rfl) ?_
  refine lv_aload_n hx hb d_Tx_compare_24 rfl (lv_at hl 0 rfl) ?_
  refine lv_iload_n hx hb d_Tx_compare_25 rfl (lv_at hl 1 rfl) ?_
  obtain ⟨q3, hq3, h⟩ := o_bd_some h
  refine o_V (st1 := [.int q3, .int x4]) (w1 := (o_cw ad ca rt Sj a0 a2 Rd Pg Pt Mk Lk Ck Jd Ld Pr)) hE.1 C (c_Tx_sign_1 hE l x3 a2 Sj a0 Rd Pg Pt Mk Lk Ck Jd Ld Pr rt hq3) hP (hDD _ _ _ _ _ _ _ _ _ _ _ _ _) hS hl.1 rfl cw_12 k_5_65 k_5_57 k_5_58 k_1_2 k_5_59 hv_Tx_sign rfl rfl ⟨(Nat.le_of_ble_eq_true rfl), (Nat.le_of_ble_eq_true rfl)⟩ rfl (Nat.le_of_ble_eq_true rfl) ⟨Nat.zero_le _, Nat.zero_le _⟩ rfl d_Tx_compare_26 (fun H locs hP hS => ?_)
  refine lv_isub hx hb d_Tx_compare_29 ?_
  cases h
  exact o_ri (v := (x4 - q3)) C hP hS d_Tx_compare_30
set_option maxHeartbeats 4000000 in
set_option maxRecDepth 100000 in
theorem w_Tx_compare_b83_01 {E : (Nat → Prop) → State → Heap → Prop} {p : Program} {l : Launch} {e : Env} {s : State} {m : MethodId} {args : Array Value} {below : List Frame} {meth : Method} {c : Code} {D : va_G} {ad kd sd vd xd : Nat → Nat} {ca : Nat → ClassId} {A : Nat → Prop} {Q : State → Prop} (hE : o_EK E kd sd vd xd) (C : o_Cx E p s m args meth c D o_cls (o_tys ca) "SchemaJudge$Text" b_Tx_compare (some .int) 10 cc_Tx_compare A) (hDD : ∀ (rt : Nat) (Sj : SSJ) (T0 : STx) (T1 : STx) (Rd : SRd) (Pg : SPg) (Pt : SPt) (Mk : SMk) (Lk : SLk) (Ck : SCk) (Jd : SJd) (Ld : SLd) (Pr : SPr), va_D A (o_cw ad ca rt Sj T0 T1 Rd Pg Pt Mk Lk Ck Jd Ld Pr)) (n : Nat) (u83_x1 : Int32) (u83_x3 : Int32) (u83_x4 : Int32) (u83_a0 : STx) (u83_a2 : STx) (u83_Sj : SSJ) (u83_Rd : SRd) (u83_Pg : SPg) (u83_Pt : SPt) (u83_Mk : SMk) (u83_Lk : SLk) (u83_Ck : SCk) (u83_Jd : SJd) (u83_Ld : SLd) (u83_Pr : SPr) (u83_rt : Nat) (z : Int32 × Int32 × Int32) (q : Nat × Int32 × Int32 × Int32) (h : m_Tx_compare_b83 n u83_x1 u83_x3 u83_x4 u83_a0 u83_a2 z = some q) (h0 : q.1 = 0 → o_At p l e rm_Tx_compare s m args below meth c Q o_cls D A 10 83 [] (o_cw ad ca u83_rt u83_Sj u83_a0 u83_a2 u83_Rd u83_Pg u83_Pt u83_Mk u83_Lk u83_Ck u83_Jd u83_Ld u83_Pr) [(0, .ref (ad 1)), (1, .int u83_x1), (2, .ref (ad 12)), (3, .int u83_x3), (4, .int u83_x4), (7, .int q.2.1)]) (h1 : q.1 ≠ 0 → (if q.1 = 1 then o_At p l e rm_Tx_compare s m args below meth c Q o_cls D A 10 115 [] (o_cw ad ca u83_rt u83_Sj u83_a0 u83_a2 u83_Rd u83_Pg u83_Pt u83_Mk u83_Lk u83_Ck u83_Jd u83_Ld u83_Pr) [(4, .int u83_x4), (8, .int q.2.2.1), (9, .int q.2.2.2)] else o_At p l e rm_Tx_compare s m args below meth c Q o_cls D A 10 137 [] (o_cw ad ca u83_rt u83_Sj u83_a0 u83_a2 u83_Rd u83_Pg u83_Pt u83_Mk u83_Lk u83_Ck u83_Jd u83_Ld u83_Pr) [])) : o_At p l e rm_Tx_compare s m args below meth c Q o_cls D A 10 83 [] (o_cw ad ca u83_rt u83_Sj u83_a0 u83_a2 u83_Rd u83_Pg u83_Pt u83_Mk u83_Lk u83_Ck u83_Jd u83_Ld u83_Pr) [(0, .ref (ad 1)), (1, .int u83_x1), (2, .ref (ad 12)), (3, .int u83_x3), (4, .int u83_x4), (7, .int z.1)] := by
  unfold m_Tx_compare_b83 at h
  intro H locs ls hP hS hl
  have C0 := C
  obtain ⟨hx, hb, -, -, -, hown, hts, hK, -, -⟩ := C0
  refine lv_iload hx hb d_Tx_compare_83 (lv_at hl 5 rfl) ?_
  refine lv_bipush (v := (60:Int32)) hx hb d_Tx_compare_85 (by decide) ?_
  refine lv_icmp_ge (tgt := 137) hx hb d_Tx_compare_87 (by decide) (fun c4 => ?_) (fun c4 => ?_)
  · replace h := o_tt c4 h
    cases h
    exact h1 (Nat.succ_ne_zero 1) _ _ _ hP hS (lv_sub hl [] rfl)
  · replace h := o_ff c4 h
    refine lv_aload_n hx hb d_Tx_compare_90 rfl (lv_at hl 0 rfl) ?_
    refine lv_iload_n hx hb d_Tx_compare_91 rfl (lv_at hl 1 rfl) ?_
    refine lv_iload hx hb d_Tx_compare_92 (lv_at hl 5 rfl) ?_
    obtain ⟨q8, hq8, h⟩ := o_bd_some h
    refine o_V (st1 := [.int q8]) (w1 := (o_cw ad ca u83_rt u83_Sj u83_a0 u83_a2 u83_Rd u83_Pg u83_Pt u83_Mk u83_Lk u83_Ck u83_Jd u83_Ld u83_Pr)) hE.1 C (c_Tx_cell_0 hE l u83_x1 z.1 u83_a0 u83_Sj u83_a2 u83_Rd u83_Pg u83_Pt u83_Mk u83_Lk u83_Ck u83_Jd u83_Ld u83_Pr u83_rt hq8) hP (hDD _ _ _ _ _ _ _ _ _ _ _ _ _) hS hl.1 rfl cw_1 k_5_70 k_4_117 k_4_118 k_1_2 k_4_119 hv_Tx_cell rfl rfl ⟨(Nat.le_of_ble_eq_true rfl), (Nat.le_of_ble_eq_true rfl)⟩ rfl (Nat.le_of_ble_eq_true rfl) ⟨Nat.zero_le _, Nat.zero_le _⟩ rfl d_Tx_compare_94 (fun H locs hP hS => ?_)
    refine lv_istore (lv' := [(8, .int q8), (0, .ref (ad 1)), (1, .int u83_x1), (2, .ref (ad 12)), (3, .int u83_x3), (4, .int u83_x4), (7, .int z.1)]) hx hb d_Tx_compare_97 hl (by decide) rfl (fun ls hl => ?_)
    refine lv_aload_n hx hb d_Tx_compare_99 rfl (lv_at hl 3 rfl) ?_
    refine lv_iload_n hx hb d_Tx_compare_100 rfl (lv_at hl 4 rfl) ?_
    refine lv_iload hx hb d_Tx_compare_101 (lv_at hl 6 rfl) ?_
    obtain ⟨q9, hq9, h⟩ := o_bd_some h
    refine o_V (st1 := [.int q9]) (w1 := (o_cw ad ca u83_rt u83_Sj u83_a0 u83_a2 u83_Rd u83_Pg u83_Pt u83_Mk u83_Lk u83_Ck u83_Jd u83_Ld u83_Pr)) hE.1 C (c_Tx_cell_1 hE l u83_x3 z.1 u83_a2 u83_Sj u83_a0 u83_Rd u83_Pg u83_Pt u83_Mk u83_Lk u83_Ck u83_Jd u83_Ld u83_Pr u83_rt hq9) hP (hDD _ _ _ _ _ _ _ _ _ _ _ _ _) hS hl.1 rfl cw_12 k_5_70 k_4_117 k_4_118 k_1_2 k_4_119 hv_Tx_cell rfl rfl ⟨(Nat.le_of_ble_eq_true rfl), (Nat.le_of_ble_eq_true rfl)⟩ rfl (Nat.le_of_ble_eq_true rfl) ⟨Nat.zero_le _, Nat.zero_le _⟩ rfl d_Tx_compare_103 (fun H locs hP hS => ?_)
    refine lv_istore (lv' := [(9, .int q9), (8, .int q8), (0, .ref (ad 1)), (1, .int u83_x1), (2, .ref (ad 12)), (3, .int u83_x3), (4, .int u83_x4), (7, .int z.1)]) hx hb d_Tx_compare_106 hl (by decide) rfl (fun ls hl => ?_)
    refine lv_iload hx hb d_Tx_compare_108 (lv_at hl 1 rfl) ?_
    refine lv_iload hx hb d_Tx_compare_110 (lv_at hl 0 rfl) ?_
    refine lv_icmp_eq (tgt := 131) hx hb d_Tx_compare_112 (by decide) (fun c5 => ?_) (fun c5 => ?_)
    · replace h := o_tt c5 h
      obtain ⟨x7_131, ex7_131⟩ : ∃ y : Int32, y = z.1 + (1:Int32) := ⟨_, rfl⟩
      replace h := o_nm_at ex7_131 h
      refine lv_iinc (v := x7_131) (lv' := [(7, .int x7_131), (9, .int q9), (8, .int q8), (0, .ref (ad 1)), (1, .int u83_x1), (2, .ref (ad 12)), (3, .int u83_x3), (4, .int u83_x4)]) hx hb d_Tx_compare_131 hl (k := 7) rfl (by rw [ex7_131]; rfl) (by decide) rfl (fun ls hl => ?_)
      refine lv_goto (tgt := 83) hx hb d_Tx_compare_134 (by decide) ?_
      cases h
      exact h0 rfl _ _ _ hP hS (lv_sub hl [3, 4, 5, 6, 7, 0] rfl)
    · replace h := o_ff c5 h
      cases h
      exact h1 (Nat.succ_ne_zero 0) _ _ _ hP hS (lv_sub hl [6, 1, 0] rfl)
set_option maxHeartbeats 4000000 in
set_option maxRecDepth 100000 in
theorem c_Tx_compare_01 {E : (Nat → Prop) → State → Heap → Prop} {D : va_G} {ad kd sd vd xd : Nat → Nat} {ca : Nat → ClassId} (hE : o_EK E kd sd vd xd) (l : Launch) (n : Nat) (x1 : Int32) (x3 : Int32) (a0 : STx) (a2 : STx) (Sj : SSJ) (Rd : SRd) (Pg : SPg) (Pt : SPt) (Mk : SMk) (Lk : SLk) (Ck : SCk) (Jd : SJd) (Ld : SLd) (Pr : SPr) (rt : Nat) {r : Int32} (h : m_Tx_compare n x1 x3 a0 a2 = some r) : o_Cn E l D o_cls (o_tys ca) y_Tx_compare cc_Tx_compare rm_Tx_compare [.ref (ad 1), .int x1, .ref (ad 12), .int x3] (o_cw ad ca rt Sj a0 a2 Rd Pg Pt Mk Lk Ck Jd Ld Pr) (o_cw ad ca rt Sj a0 a2 Rd Pg Pt Mk Lk Ck Jd Ld Pr) (some (.int r)) := by
  refine o_Cn_of (by decide) (Nat.le_of_ble_eq_true rfl) ?_
  intro p e s m below meth c A ls C hD hP hS hl
  have hDD : ∀ (rt : Nat) (Sj : SSJ) (T0 : STx) (T1 : STx) (Rd : SRd) (Pg : SPg) (Pt : SPt) (Mk : SMk) (Lk : SLk) (Ck : SCk) (Jd : SJd) (Ld : SLd) (Pr : SPr), va_D A (o_cw ad ca rt Sj T0 T1 Rd Pg Pt Mk Lk Ck Jd Ld Pr) := fun _ _ _ _ _ _ _ _ _ _ _ _ _ => o_D_map hD rfl
  have hl : lv_has ls 10 [(0, .ref (ad 1)), (1, .int x1), (2, .ref (ad 12)), (3, .int x3)] := hl
  unfold m_Tx_compare at h
  have C0 := C
  obtain ⟨hx, hb, -, -, -, hown, hts, hK, -, -⟩ := C0
  refine lv_aload_n hx hb d_Tx_compare_0 rfl (lv_at hl 0 rfl) ?_
  refine lv_iload_n hx hb d_Tx_compare_1 rfl (lv_at hl 1 rfl) ?_
  obtain ⟨q1, hq1, h⟩ := o_bd_some h
  refine o_V (st1 := [.int q1]) (w1 := (o_cw ad ca rt Sj a0 a2 Rd Pg Pt Mk Lk Ck Jd Ld Pr)) hE.1 C (c_Tx_sign_0 hE l x1 a0 Sj a2 Rd Pg Pt Mk Lk Ck Jd Ld Pr rt hq1) hP (hDD _ _ _ _ _ _ _ _ _ _ _ _ _) hS hl.1 rfl cw_1 k_5_65 k_5_57 k_5_58 k_1_2 k_5_59 hv_Tx_sign rfl rfl ⟨(Nat.le_of_ble_eq_true rfl), (Nat.le_of_ble_eq_true rfl)⟩ rfl (Nat.le_of_ble_eq_true rfl) ⟨Nat.zero_le _, Nat.zero_le _⟩ rfl d_Tx_compare_2 (fun H locs hP hS => ?_)
  refine lv_istore (lv' := [(4, .int q1), (0, .ref (ad 1)), (1, .int x1), (2, .ref (ad 12)), (3, .int x3)]) hx hb d_Tx_compare_5 hl (by decide) rfl (fun ls hl => ?_)
  refine lv_iload hx hb d_Tx_compare_7 (lv_at hl 0 rfl) ?_
  refine lv_aload_n hx hb d_Tx_compare_9 rfl (lv_at hl 3 rfl) ?_
  refine lv_iload_n hx hb d_Tx_compare_10 rfl (lv_at hl 4 rfl) ?_
  obtain ⟨q2, hq2, h⟩ := o_bd_some h
  refine o_V (st1 := [.int q2, .int q1]) (w1 := (o_cw ad ca rt Sj a0 a2 Rd Pg Pt Mk Lk Ck Jd Ld Pr)) hE.1 C (c_Tx_sign_1 hE l x3 a2 Sj a0 Rd Pg Pt Mk Lk Ck Jd Ld Pr rt hq2) hP (hDD _ _ _ _ _ _ _ _ _ _ _ _ _) hS hl.1 rfl cw_12 k_5_65 k_5_57 k_5_58 k_1_2 k_5_59 hv_Tx_sign rfl rfl ⟨(Nat.le_of_ble_eq_true rfl), (Nat.le_of_ble_eq_true rfl)⟩ rfl (Nat.le_of_ble_eq_true rfl) ⟨Nat.zero_le _, Nat.zero_le _⟩ rfl d_Tx_compare_11 (fun H locs hP hS => ?_)
  refine lv_icmp_ne (tgt := 22) hx hb d_Tx_compare_14 (by decide) (fun c1 => ?_) (fun c1 => ?_)
  · replace h := o_ff c1 h
    exact w_Tx_compare_j22_01 hE C hDD n x3 q1 a0 a2 Sj Rd Pg Pt Mk Lk Ck Jd Ld Pr rt h _ _ _ hP hS (lv_sub hl [3, 4, 0] rfl)
  · replace h := o_tt c1 h
    refine lv_iload hx hb d_Tx_compare_17 (lv_at hl 0 rfl) ?_
    refine lv_if_ne (tgt := 31) hx hb d_Tx_compare_19 (by decide) (fun c2 => ?_) (fun c2 => ?_)
    · replace h := o_ff c2 h
      refine lv_aload_n hx hb d_Tx_compare_31 rfl (lv_at hl 1 rfl) ?_
      refine lv_iload_n hx hb d_Tx_compare_32 rfl (lv_at hl 2 rfl) ?_
      obtain ⟨q4, hq4, h⟩ := o_bd_some h
      refine o_V (st1 := [.int q4]) (w1 := (o_cw ad ca rt Sj a0 a2 Rd Pg Pt Mk Lk Ck Jd Ld Pr)) hE.1 C (c_Tx_size_0 hE l x1 a0 Sj a2 Rd Pg Pt Mk Lk Ck Jd Ld Pr rt hq4) hP (hDD _ _ _ _ _ _ _ _ _ _ _ _ _) hS hl.1 rfl cw_1 k_3_214 k_3_215 k_3_216 k_1_2 k_3_217 hv_Tx_size rfl rfl ⟨(Nat.le_of_ble_eq_true rfl), (Nat.le_of_ble_eq_true rfl)⟩ rfl (Nat.le_of_ble_eq_true rfl) ⟨Nat.zero_le _, Nat.zero_le _⟩ rfl d_Tx_compare_33 (fun H locs hP hS => ?_)
      refine lv_aload_n hx hb d_Tx_compare_36 rfl (lv_at hl 1 rfl) ?_
      refine lv_iload_n hx hb d_Tx_compare_37 rfl (lv_at hl 2 rfl) ?_
      obtain ⟨q5, hq5, h⟩ := o_bd_some h
      refine o_V (st1 := [.int q5, .int q4]) (w1 := (o_cw ad ca rt Sj a0 a2 Rd Pg Pt Mk Lk Ck Jd Ld Pr)) hE.1 C (c_Tx_exponent_0 hE l x1 a0 Sj a2 Rd Pg Pt Mk Lk Ck Jd Ld Pr rt hq5) hP (hDD _ _ _ _ _ _ _ _ _ _ _ _ _) hS hl.1 rfl cw_1 k_5_66 k_5_67 k_5_68 k_1_2 k_5_69 hv_Tx_exponent rfl rfl ⟨(Nat.le_of_ble_eq_true rfl), (Nat.le_of_ble_eq_true rfl)⟩ rfl (Nat.le_of_ble_eq_true rfl) ⟨Nat.zero_le _, Nat.zero_le _⟩ rfl d_Tx_compare_38 (fun H locs hP hS => ?_)
      refine lv_iadd hx hb d_Tx_compare_41 ?_
      refine lv_topi (fun x5_42 ex5_42 => ?_)
      replace h := o_nm_at ex5_42 h
      refine lv_istore (lv' := [(5, .int x5_42), (4, .int q1), (0, .ref (ad 1)), (1, .int x1), (2, .ref (ad 12)), (3, .int x3)]) hx hb d_Tx_compare_42 hl (by decide) rfl (fun ls hl => ?_)
      refine lv_aload_n hx hb d_Tx_compare_44 rfl (lv_at hl 4 rfl) ?_
      refine lv_iload_n hx hb d_Tx_compare_45 rfl (lv_at hl 5 rfl) ?_
      obtain ⟨q6, hq6, h⟩ := o_bd_some h
      refine o_V (st1 := [.int q6]) (w1 := (o_cw ad ca rt Sj a0 a2 Rd Pg Pt Mk Lk Ck Jd Ld Pr)) hE.1 C (c_Tx_size_1 hE l x3 a2 Sj a0 Rd Pg Pt Mk Lk Ck Jd Ld Pr rt hq6) hP (hDD _ _ _ _ _ _ _ _ _ _ _ _ _) hS hl.1 rfl cw_12 k_3_214 k_3_215 k_3_216 k_1_2 k_3_217 hv_Tx_size rfl rfl ⟨(Nat.le_of_ble_eq_true rfl), (Nat.le_of_ble_eq_true rfl)⟩ rfl (Nat.le_of_ble_eq_true rfl) ⟨Nat.zero_le _, Nat.zero_le _⟩ rfl d_Tx_compare_46 (fun H locs hP hS => ?_)
      refine lv_aload_n hx hb d_Tx_compare_49 rfl (lv_at hl 4 rfl) ?_
      refine lv_iload_n hx hb d_Tx_compare_50 rfl (lv_at hl 5 rfl) ?_
      obtain ⟨q7, hq7, h⟩ := o_bd_some h
      refine o_V (st1 := [.int q7, .int q6]) (w1 := (o_cw ad ca rt Sj a0 a2 Rd Pg Pt Mk Lk Ck Jd Ld Pr)) hE.1 C (c_Tx_exponent_1 hE l x3 a2 Sj a0 Rd Pg Pt Mk Lk Ck Jd Ld Pr rt hq7) hP (hDD _ _ _ _ _ _ _ _ _ _ _ _ _) hS hl.1 rfl cw_12 k_5_66 k_5_67 k_5_68 k_1_2 k_5_69 hv_Tx_exponent rfl rfl ⟨(Nat.le_of_ble_eq_true rfl), (Nat.le_of_ble_eq_true rfl)⟩ rfl (Nat.le_of_ble_eq_true rfl) ⟨Nat.zero_le _, Nat.zero_le _⟩ rfl d_Tx_compare_51 (fun H locs hP hS => ?_)
      refine lv_iadd hx hb d_Tx_compare_54 ?_
      refine lv_topi (fun x6_55 ex6_55 => ?_)
      replace h := o_nm_at ex6_55 h
      refine lv_istore (lv' := [(6, .int x6_55), (5, .int x5_42), (4, .int q1), (0, .ref (ad 1)), (1, .int x1), (2, .ref (ad 12)), (3, .int x3)]) hx hb d_Tx_compare_55 hl (by decide) rfl (fun ls hl => ?_)
      refine lv_iload hx hb d_Tx_compare_57 (lv_at hl 1 rfl) ?_
      refine lv_iload hx hb d_Tx_compare_59 (lv_at hl 0 rfl) ?_
      refine lv_icmp_eq (tgt := 80) hx hb d_Tx_compare_61 (by decide) (fun c3 => ?_) (fun c3 => ?_)
      · replace h := o_tt c3 h
        refine lv_iconst (v := (0:Int32)) hx hb d_Tx_compare_80 (by decide) ?_
        refine lv_istore (lv' := [(7, .int (0:Int32)), (6, .int x6_55), (5, .int x5_42), (4, .int q1), (0, .ref (ad 1)), (1, .int x1), (2, .ref (ad 12)), (3, .int x3)]) hx hb d_Tx_compare_81 hl (by decide) rfl (fun ls hl => ?_)
        obtain ⟨q10, hq10, h⟩ := o_bd_some h
        refine o_sim2 (AH := fun zz => o_At p l e rm_Tx_compare s m _ below meth c _ o_cls D A 10 83 [] (o_cw ad ca rt Sj a0 a2 Rd Pg Pt Mk Lk Ck Jd Ld Pr) [(0, .ref (ad 1)), (1, .int x1), (2, .ref (ad 12)), (3, .int x3), (4, .int q1), (7, .int zz.1)]) (AX := fun qq => if qq.1 = 1 then o_At p l e rm_Tx_compare s m _ below meth c _ o_cls D A 10 115 [] (o_cw ad ca rt Sj a0 a2 Rd Pg Pt Mk Lk Ck Jd Ld Pr) [(4, .int q1), (8, .int qq.2.2.1), (9, .int qq.2.2.2)] else o_At p l e rm_Tx_compare s m _ below meth c _ o_cls D A 10 137 [] (o_cw ad ca rt Sj a0 a2 Rd Pg Pt Mk Lk Ck Jd Ld Pr) []) (fun zz qq h h0 h1 => w_Tx_compare_b83_01 hE C hDD n x1 x3 q1 a0 a2 Sj Rd Pg Pt Mk Lk Ck Jd Ld Pr rt zz qq h h0 h1) n _ q10 hq10 ?_ _ _ _ hP hS (lv_sub hl [4, 5, 6, 7, 3, 0] rfl)
        by_cases c7 : q10.1 = 1
        · replace h := o_tt c7 h
          refine o_ip c7 ?_
          intro H locs ls hP hS hl
          refine lv_iload hx hb d_Tx_compare_115 (lv_at hl 1 rfl) ?_
          refine lv_iload hx hb d_Tx_compare_117 (lv_at hl 2 rfl) ?_
          refine lv_icmp_ge (tgt := 128) hx hb d_Tx_compare_119 (by decide) (fun c6 => ?_) (fun c6 => ?_)
          · replace h := o_tt c6 h
            refine lv_iload hx hb d_Tx_compare_128 (lv_at hl 0 rfl) ?_
            cases h
            exact o_ri C hP hS d_Tx_compare_130
          · replace h := o_ff c6 h
            refine lv_iload hx hb d_Tx_compare_122 (lv_at hl 0 rfl) ?_
            refine lv_ineg hx hb d_Tx_compare_124 ?_
            refine lv_goto (tgt := 130) hx hb d_Tx_compare_125 (by decide) ?_
            cases h
            exact o_ri (v := (-q1)) C hP hS d_Tx_compare_130
        replace h := o_ff c7 h
        refine o_in_ c7 ?_
        intro H locs ls hP hS hl
        refine lv_iconst (v := (0:Int32)) hx hb d_Tx_compare_137 (by decide) ?_
        cases h
        exact o_ri (v := (0:Int32)) C hP hS d_Tx_compare_138
      · replace h := o_ff c3 h
        refine lv_iload hx hb d_Tx_compare_64 (lv_at hl 1 rfl) ?_
        refine lv_iload hx hb d_Tx_compare_66 (lv_at hl 0 rfl) ?_
        refine lv_icmp_ge (tgt := 77) hx hb d_Tx_compare_68 (by decide) (fun c8 => ?_) (fun c8 => ?_)
        · replace h := o_tt c8 h
          refine lv_iload hx hb d_Tx_compare_77 (lv_at hl 2 rfl) ?_
          cases h
          exact o_ri C hP hS d_Tx_compare_79
        · replace h := o_ff c8 h
          refine lv_iload hx hb d_Tx_compare_71 (lv_at hl 2 rfl) ?_
          refine lv_ineg hx hb d_Tx_compare_73 ?_
          refine lv_goto (tgt := 79) hx hb d_Tx_compare_74 (by decide) ?_
          cases h
          exact o_ri (v := (-q1)) C hP hS d_Tx_compare_79
    · replace h := o_tt c2 h
      exact w_Tx_compare_j22_01 hE C hDD n x3 q1 a0 a2 Sj Rd Pg Pt Mk Lk Ck Jd Ld Pr rt h _ _ _ hP hS (lv_sub hl [3, 4, 0] rfl)
set_option maxHeartbeats 4000000 in
set_option maxRecDepth 100000 in
theorem w_Tx_same_j125_01 {E : (Nat → Prop) → State → Heap → Prop} {p : Program} {l : Launch} {e : Env} {s : State} {m : MethodId} {args : Array Value} {below : List Frame} {meth : Method} {c : Code} {D : va_G} {ad kd sd vd xd : Nat → Nat} {ca : Nat → ClassId} {A : Nat → Prop} {Q : State → Prop} (hE : o_EK E kd sd vd xd) (C : o_Cx E p s m args meth c D o_cls (o_tys ca) "SchemaJudge$Text" b_Tx_same (some .boolean) 10 cc_Tx_same A) (hDD : ∀ (rt : Nat) (Sj : SSJ) (T0 : STx) (T1 : STx) (Rd : SRd) (Pg : SPg) (Pt : SPt) (Mk : SMk) (Lk : SLk) (Ck : SCk) (Jd : SJd) (Ld : SLd) (Pr : SPr), va_D A (o_cw ad ca rt Sj T0 T1 Rd Pg Pt Mk Lk Ck Jd Ld Pr)) (d : Nat) (rec : Int32 → Int32 → Int32 → STx → STx → Option (Int32)) (hrec : ∀ (x1 : Int32) (x3 : Int32) (x4 : Int32) (a0 : STx) (a2 : STx) (Sj : SSJ) (Rd : SRd) (Pg : SPg) (Pt : SPt) (Mk : SMk) (Lk : SLk) (Ck : SCk) (Jd : SJd) (Ld : SLd) (Pr : SPr) (rt : Nat) (r : Int32), rec x1 x3 x4 a0 a2 = some r → o_Cn E l D o_cls (o_tys ca) y_Tx_same cc_Tx_same (rm_Tx_same d) [.ref (ad 1), .int x1, .ref (ad 12), .int x3, .int x4] (o_cw ad ca rt Sj a0 a2 Rd Pg Pt Mk Lk Ck Jd Ld Pr) (o_cw ad ca rt Sj a0 a2 Rd Pg Pt Mk Lk Ck Jd Ld Pr) (some (.int r))) (n : Nat) (u94_x1 : Int32) (u94_x3 : Int32) (u94_x4 : Int32) (u94_x5 : Int32) (u94_a0 : STx) (u94_a2 : STx) (u94_Sj : SSJ) (u94_Rd : SRd) (u94_Pg : SPg) (u94_Pt : SPt) (u94_Mk : SMk) (u94_Lk : SLk) (u94_Ck : SCk) (u94_Jd : SJd) (u94_Ld : SLd) (u94_Pr : SPr) (u94_rt : Nat) (x6 : Int32) (x7 : Int32) (x8 : Int32) (y0 : Int32) {q : Nat × Int32 × Int32 × Int32} (h : m_Tx_same_j125 n rec u94_x1 u94_x3 u94_x4 u94_x5 x6 x7 x8 y0 u94_a0 u94_a2 = some q) (h0 : q.1 = 0 → o_At p l e (rm_Tx_same (d + 1)) s m args below meth c Q o_cls D A 10 94 [] (o_cw ad ca u94_rt u94_Sj u94_a0 u94_a2 u94_Rd u94_Pg u94_Pt u94_Mk u94_Lk u94_Ck u94_Jd u94_Ld u94_Pr) [(0, .ref (ad 1)), (1, .int u94_x1), (2, .ref (ad 12)), (3, .int u94_x3), (4, .int u94_x4), (5, .int u94_x5), (6, .int q.2.1), (7, .int q.2.2.1), (8, .int q.2.2.2)]) (h1 : q.1 ≠ 0 → (if q.1 = 1 then o_At p l e (rm_Tx_same (d + 1)) s m args below meth c Q o_cls D A 10 149 [] (o_cw ad ca u94_rt u94_Sj u94_a0 u94_a2 u94_Rd u94_Pg u94_Pt u94_Mk u94_Lk u94_Ck u94_Jd u94_Ld u94_Pr) [] else o_At p l e (rm_Tx_same (d + 1)) s m args below meth c Q o_cls D A 10 173 [] (o_cw ad ca u94_rt u94_Sj u94_a0 u94_a2 u94_Rd u94_Pg u94_Pt u94_Mk u94_Lk u94_Ck u94_Jd u94_Ld u94_Pr) [])) : o_At p l e (rm_Tx_same (d + 1)) s m args below meth c Q o_cls D A 10 125 [.int y0] (o_cw ad ca u94_rt u94_Sj u94_a0 u94_a2 u94_Rd u94_Pg u94_Pt u94_Mk u94_Lk u94_Ck u94_Jd u94_Ld u94_Pr) [(0, .ref (ad 1)), (1, .int u94_x1), (2, .ref (ad 12)), (3, .int u94_x3), (4, .int u94_x4), (5, .int u94_x5), (6, .int x6), (7, .int x7), (8, .int x8)] := by
  unfold m_Tx_same_j125 at h
  intro H locs ls hP hS hl
  have C0 := C
  obtain ⟨hx, hb, -, -, -, hown, hts, hK, -, -⟩ := C0
  refine lv_istore (lv' := [(9, .int y0), (0, .ref (ad 1)), (1, .int u94_x1), (2, .ref (ad 12)), (3, .int u94_x3), (4, .int u94_x4), (5, .int u94_x5), (6, .int x6), (7, .int x7), (8, .int x8)]) hx hb d_Tx_same_125 hl (by decide) rfl (fun ls hl => ?_)
  refine lv_iload hx hb d_Tx_same_127 (lv_at hl 0 rfl) ?_
  refine lv_iconst (v := (-1:Int32)) hx hb d_Tx_same_129 (by decide) ?_
  refine lv_icmp_eq (tgt := 149) hx hb d_Tx_same_130 (by decide) (fun c8 => ?_) (fun c8 => ?_)
  · replace h := o_tt c8 h
    cases h
    exact h1 (Nat.succ_ne_zero 0) _ _ _ hP hS (lv_sub hl [] rfl)
  · replace h := o_ff c8 h
    refine lv_aload_n hx hb d_Tx_same_133 rfl (lv_at hl 1 rfl) ?_
    refine lv_iload hx hb d_Tx_same_134 (lv_at hl 7 rfl) ?_
    refine lv_aload_n hx hb d_Tx_same_136 rfl (lv_at hl 3 rfl) ?_
    refine lv_iload hx hb d_Tx_same_137 (lv_at hl 0 rfl) ?_
    refine lv_iload hx hb d_Tx_same_139 (lv_at hl 5 rfl) ?_
    refine lv_iconst (v := (1:Int32)) hx hb d_Tx_same_141 (by decide) ?_
    refine lv_iadd hx hb d_Tx_same_142 ?_
    obtain ⟨q9, hq9, h⟩ := o_bd_some h
    refine o_S (st1 := [.int q9]) (w1 := (o_cw ad ca u94_rt u94_Sj u94_a0 u94_a2 u94_Rd u94_Pg u94_Pt u94_Mk u94_Lk u94_Ck u94_Jd u94_Ld u94_Pr)) hE.1 C (hrec x6 y0 (u94_x4 + (1:Int32)) u94_a0 u94_a2 u94_Sj u94_Rd u94_Pg u94_Pt u94_Mk u94_Lk u94_Ck u94_Jd u94_Ld u94_Pr u94_rt _ hq9) hP (hDD _ _ _ _ _ _ _ _ _ _ _ _ _) hS hl.1 k_6_188 k_6_182 k_1_2 k_6_183 hs_Tx_same rfl rfl ⟨(by dsimp only [rm_Tx_same, rm_Tx_same]; omega), (by dsimp only [rm_Tx_same, rm_Tx_same]; omega)⟩ rfl (Nat.le_of_ble_eq_true rfl) ⟨Nat.zero_le _, Nat.zero_le _⟩ rfl d_Tx_same_143 (fun H locs hP hS => ?_)
    refine lv_if_ne (tgt := 151) hx hb d_Tx_same_146 (by decide) (fun c9 => ?_) (fun c9 => ?_)
    · replace h := o_ff c9 h
      refine lv_aload_n hx hb d_Tx_same_151 rfl (lv_at hl 1 rfl) ?_
      refine lv_iload hx hb d_Tx_same_152 (lv_at hl 7 rfl) ?_
      obtain ⟨q10, hq10, h⟩ := o_bd_some h
      refine o_V (st1 := [.int q10]) (w1 := (o_cw ad ca u94_rt u94_Sj u94_a0 u94_a2 u94_Rd u94_Pg u94_Pt u94_Mk u94_Lk u94_Ck u94_Jd u94_Ld u94_Pr)) hE.1 C (c_Tx_nextChild_0 hE l x6 u94_a0 u94_Sj u94_a2 u94_Rd u94_Pg u94_Pt u94_Mk u94_Lk u94_Ck u94_Jd u94_Ld u94_Pr u94_rt hq10) hP (hDD _ _ _ _ _ _ _ _ _ _ _ _ _) hS hl.1 rfl cw_1 k_3_221 k_3_222 k_3_223 k_1_2 k_3_224 hv_Tx_nextChild rfl rfl ⟨(by dsimp only [rm_Tx_same, rm_Tx_nextChild]; omega), (by dsimp only [rm_Tx_same, rm_Tx_nextChild]; omega)⟩ rfl (Nat.le_of_ble_eq_true rfl) ⟨Nat.zero_le _, Nat.zero_le _⟩ rfl d_Tx_same_154 (fun H locs hP hS => ?_)
      refine lv_istore (lv' := [(6, .int q10), (9, .int y0), (0, .ref (ad 1)), (1, .int u94_x1), (2, .ref (ad 12)), (3, .int u94_x3), (4, .int u94_x4), (5, .int u94_x5), (7, .int x7), (8, .int x8)]) hx hb d_Tx_same_157 hl (by decide) rfl (fun ls hl => ?_)
      refine lv_aload_n hx hb d_Tx_same_159 rfl (lv_at hl 4 rfl) ?_
      refine lv_iload hx hb d_Tx_same_160 (lv_at hl 8 rfl) ?_
      obtain ⟨q11, hq11, h⟩ := o_bd_some h
      refine o_V (st1 := [.int q11]) (w1 := (o_cw ad ca u94_rt u94_Sj u94_a0 u94_a2 u94_Rd u94_Pg u94_Pt u94_Mk u94_Lk u94_Ck u94_Jd u94_Ld u94_Pr)) hE.1 C (c_Tx_nextChild_1 hE l x7 u94_a2 u94_Sj u94_a0 u94_Rd u94_Pg u94_Pt u94_Mk u94_Lk u94_Ck u94_Jd u94_Ld u94_Pr u94_rt hq11) hP (hDD _ _ _ _ _ _ _ _ _ _ _ _ _) hS hl.1 rfl cw_12 k_3_221 k_3_222 k_3_223 k_1_2 k_3_224 hv_Tx_nextChild rfl rfl ⟨(by dsimp only [rm_Tx_same, rm_Tx_nextChild]; omega), (by dsimp only [rm_Tx_same, rm_Tx_nextChild]; omega)⟩ rfl (Nat.le_of_ble_eq_true rfl) ⟨Nat.zero_le _, Nat.zero_le _⟩ rfl d_Tx_same_162 (fun H locs hP hS => ?_)
      refine lv_istore (lv' := [(7, .int q11), (6, .int q10), (9, .int y0), (0, .ref (ad 1)), (1, .int u94_x1), (2, .ref (ad 12)), (3, .int u94_x3), (4, .int u94_x4), (5, .int u94_x5), (8, .int x8)]) hx hb d_Tx_same_165 hl (by decide) rfl (fun ls hl => ?_)
      obtain ⟨x8_167, ex8_167⟩ : ∃ y : Int32, y = x8 + (1:Int32) := ⟨_, rfl⟩
      replace h := o_nm_at ex8_167 h
      refine lv_iinc (v := x8_167) (lv' := [(8, .int x8_167), (7, .int q11), (6, .int q10), (9, .int y0), (0, .ref (ad 1)), (1, .int u94_x1), (2, .ref (ad 12)), (3, .int u94_x3), (4, .int u94_x4), (5, .int u94_x5)]) hx hb d_Tx_same_167 hl (k := 9) rfl (by rw [ex8_167]; rfl) (by decide) rfl (fun ls hl => ?_)
      refine lv_goto (tgt := 94) hx hb d_Tx_same_170 (by decide) ?_
      cases h
      exact h0 rfl _ _ _ hP hS (lv_sub hl [4, 5, 6, 7, 8, 9, 2, 1, 0] rfl)
    · replace h := o_tt c9 h
      cases h
      exact h1 (Nat.succ_ne_zero 0) _ _ _ hP hS (lv_sub hl [] rfl)
set_option maxHeartbeats 4000000 in
set_option maxRecDepth 100000 in
theorem w_Tx_same_b94_01 {E : (Nat → Prop) → State → Heap → Prop} {p : Program} {l : Launch} {e : Env} {s : State} {m : MethodId} {args : Array Value} {below : List Frame} {meth : Method} {c : Code} {D : va_G} {ad kd sd vd xd : Nat → Nat} {ca : Nat → ClassId} {A : Nat → Prop} {Q : State → Prop} (hE : o_EK E kd sd vd xd) (C : o_Cx E p s m args meth c D o_cls (o_tys ca) "SchemaJudge$Text" b_Tx_same (some .boolean) 10 cc_Tx_same A) (hDD : ∀ (rt : Nat) (Sj : SSJ) (T0 : STx) (T1 : STx) (Rd : SRd) (Pg : SPg) (Pt : SPt) (Mk : SMk) (Lk : SLk) (Ck : SCk) (Jd : SJd) (Ld : SLd) (Pr : SPr), va_D A (o_cw ad ca rt Sj T0 T1 Rd Pg Pt Mk Lk Ck Jd Ld Pr)) (d : Nat) (rec : Int32 → Int32 → Int32 → STx → STx → Option (Int32)) (hrec : ∀ (x1 : Int32) (x3 : Int32) (x4 : Int32) (a0 : STx) (a2 : STx) (Sj : SSJ) (Rd : SRd) (Pg : SPg) (Pt : SPt) (Mk : SMk) (Lk : SLk) (Ck : SCk) (Jd : SJd) (Ld : SLd) (Pr : SPr) (rt : Nat) (r : Int32), rec x1 x3 x4 a0 a2 = some r → o_Cn E l D o_cls (o_tys ca) y_Tx_same cc_Tx_same (rm_Tx_same d) [.ref (ad 1), .int x1, .ref (ad 12), .int x3, .int x4] (o_cw ad ca rt Sj a0 a2 Rd Pg Pt Mk Lk Ck Jd Ld Pr) (o_cw ad ca rt Sj a0 a2 Rd Pg Pt Mk Lk Ck Jd Ld Pr) (some (.int r))) (n : Nat) (u94_x1 : Int32) (u94_x3 : Int32) (u94_x4 : Int32) (u94_x5 : Int32) (u94_a0 : STx) (u94_a2 : STx) (u94_Sj : SSJ) (u94_Rd : SRd) (u94_Pg : SPg) (u94_Pt : SPt) (u94_Mk : SMk) (u94_Lk : SLk) (u94_Ck : SCk) (u94_Jd : SJd) (u94_Ld : SLd) (u94_Pr : SPr) (u94_rt : Nat) (z : Int32 × Int32 × Int32) (q : Nat × Int32 × Int32 × Int32) (h : m_Tx_same_b94 n rec u94_x1 u94_x3 u94_x4 u94_x5 u94_a0 u94_a2 z = some q) (h0 : q.1 = 0 → o_At p l e (rm_Tx_same (d + 1)) s m args below meth c Q o_cls D A 10 94 [] (o_cw ad ca u94_rt u94_Sj u94_a0 u94_a2 u94_Rd u94_Pg u94_Pt u94_Mk u94_Lk u94_Ck u94_Jd u94_Ld u94_Pr) [(0, .ref (ad 1)), (1, .int u94_x1), (2, .ref (ad 12)), (3, .int u94_x3), (4, .int u94_x4), (5, .int u94_x5), (6, .int q.2.1), (7, .int q.2.2.1), (8, .int q.2.2.2)]) (h1 : q.1 ≠ 0 → (if q.1 = 1 then o_At p l e (rm_Tx_same (d + 1)) s m args below meth c Q o_cls D A 10 149 [] (o_cw ad ca u94_rt u94_Sj u94_a0 u94_a2 u94_Rd u94_Pg u94_Pt u94_Mk u94_Lk u94_Ck u94_Jd u94_Ld u94_Pr) [] else o_At p l e (rm_Tx_same (d + 1)) s m args below meth c Q o_cls D A 10 173 [] (o_cw ad ca u94_rt u94_Sj u94_a0 u94_a2 u94_Rd u94_Pg u94_Pt u94_Mk u94_Lk u94_Ck u94_Jd u94_Ld u94_Pr) [])) : o_At p l e (rm_Tx_same (d + 1)) s m args below meth c Q o_cls D A 10 94 [] (o_cw ad ca u94_rt u94_Sj u94_a0 u94_a2 u94_Rd u94_Pg u94_Pt u94_Mk u94_Lk u94_Ck u94_Jd u94_Ld u94_Pr) [(0, .ref (ad 1)), (1, .int u94_x1), (2, .ref (ad 12)), (3, .int u94_x3), (4, .int u94_x4), (5, .int u94_x5), (6, .int z.1), (7, .int z.2.1), (8, .int z.2.2)] := by
  unfold m_Tx_same_b94 at h
  intro H locs ls hP hS hl
  have C0 := C
  obtain ⟨hx, hb, -, -, -, hown, hts, hK, -, -⟩ := C0
  refine lv_iload hx hb d_Tx_same_94 (lv_at hl 8 rfl) ?_
  refine lv_aload_n hx hb d_Tx_same_96 rfl (lv_at hl 0 rfl) ?_
  refine lv_iload_n hx hb d_Tx_same_97 rfl (lv_at hl 1 rfl) ?_
  obtain ⟨q7, hq7, h⟩ := o_bd_some h
  refine o_V (st1 := [.int q7, .int z.2.2]) (w1 := (o_cw ad ca u94_rt u94_Sj u94_a0 u94_a2 u94_Rd u94_Pg u94_Pt u94_Mk u94_Lk u94_Ck u94_Jd u94_Ld u94_Pr)) hE.1 C (c_Tx_size_0 hE l u94_x1 u94_a0 u94_Sj u94_a2 u94_Rd u94_Pg u94_Pt u94_Mk u94_Lk u94_Ck u94_Jd u94_Ld u94_Pr u94_rt hq7) hP (hDD _ _ _ _ _ _ _ _ _ _ _ _ _) hS hl.1 rfl cw_1 k_3_214 k_3_215 k_3_216 k_1_2 k_3_217 hv_Tx_size rfl rfl ⟨(by dsimp only [rm_Tx_same, rm_Tx_size]; omega), (by dsimp only [rm_Tx_same, rm_Tx_size]; omega)⟩ rfl (Nat.le_of_ble_eq_true rfl) ⟨Nat.zero_le _, Nat.zero_le _⟩ rfl d_Tx_same_98 (fun H locs hP hS => ?_)
  refine lv_icmp_ge (tgt := 173) hx hb d_Tx_same_101 (by decide) (fun c6 => ?_) (fun c6 => ?_)
  · replace h := o_tt c6 h
    cases h
    exact h1 (Nat.succ_ne_zero 1) _ _ _ hP hS (lv_sub hl [] rfl)
  · replace h := o_ff c6 h
    refine lv_iload hx hb d_Tx_same_104 (lv_at hl 5 rfl) ?_
    refine lv_iconst (v := (5:Int32)) hx hb d_Tx_same_106 (by decide) ?_
    refine lv_icmp_ne (tgt := 115) hx hb d_Tx_same_107 (by decide) (fun c7 => ?_) (fun c7 => ?_)
    · replace h := o_ff c7 h
      refine lv_aload_n hx hb d_Tx_same_115 rfl (lv_at hl 2 rfl) ?_
      refine lv_iload_n hx hb d_Tx_same_116 rfl (lv_at hl 3 rfl) ?_
      refine lv_aload_n hx hb d_Tx_same_117 rfl (lv_at hl 0 rfl) ?_
      refine lv_iload hx hb d_Tx_same_118 (lv_at hl 6 rfl) ?_
      refine lv_iconst (v := (1:Int32)) hx hb d_Tx_same_120 (by decide) ?_
      refine lv_isub hx hb d_Tx_same_121 ?_
      obtain ⟨q8, hq8, h⟩ := o_bd_some h
      refine o_V (st1 := [.int q8]) (w1 := (o_cw ad ca u94_rt u94_Sj u94_a0 u94_a2 u94_Rd u94_Pg u94_Pt u94_Mk u94_Lk u94_Ck u94_Jd u94_Ld u94_Pr)) hE.1 C (c_Tx_member_10 hE l n u94_x3 (z.1 - (1:Int32)) u94_a2 u94_a0 u94_Sj u94_Rd u94_Pg u94_Pt u94_Mk u94_Lk u94_Ck u94_Jd u94_Ld u94_Pr u94_rt hq8) hP (hDD _ _ _ _ _ _ _ _ _ _ _ _ _) hS hl.1 rfl cw_12 k_6_187 k_3_207 k_3_208 k_1_2 k_3_209 hv_Tx_member rfl rfl ⟨(by dsimp only [rm_Tx_same, rm_Tx_member]; omega), (by dsimp only [rm_Tx_same, rm_Tx_member]; omega)⟩ rfl (Nat.le_of_ble_eq_true rfl) ⟨Nat.zero_le _, Nat.zero_le _⟩ rfl d_Tx_same_122 (fun H locs hP hS => ?_)
      exact w_Tx_same_j125_01 hE C hDD d rec hrec n u94_x1 u94_x3 u94_x4 u94_x5 u94_a0 u94_a2 u94_Sj u94_Rd u94_Pg u94_Pt u94_Mk u94_Lk u94_Ck u94_Jd u94_Ld u94_Pr u94_rt z.1 z.2.1 z.2.2 q8 h h0 h1 _ _ _ hP hS (lv_sub hl [0, 1, 2, 3, 4, 5, 6, 7, 8] rfl)
    · replace h := o_tt c7 h
      refine lv_iload hx hb d_Tx_same_110 (lv_at hl 7 rfl) ?_
      refine lv_goto (tgt := 125) hx hb d_Tx_same_112 (by decide) ?_
      exact w_Tx_same_j125_01 hE C hDD d rec hrec n u94_x1 u94_x3 u94_x4 u94_x5 u94_a0 u94_a2 u94_Sj u94_Rd u94_Pg u94_Pt u94_Mk u94_Lk u94_Ck u94_Jd u94_Ld u94_Pr u94_rt z.1 z.2.1 z.2.2 z.2.1 h h0 h1 _ _ _ hP hS (lv_sub hl [0, 1, 2, 3, 4, 5, 6, 7, 8] rfl)
set_option maxHeartbeats 4000000 in
set_option maxRecDepth 100000 in
theorem c_Tx_same_01_F {E : (Nat → Prop) → State → Heap → Prop} {D : va_G} {ad kd sd vd xd : Nat → Nat} {ca : Nat → ClassId} (hE : o_EK E kd sd vd xd) (l : Launch) (n : Nat) (d : Nat) (rec : Int32 → Int32 → Int32 → STx → STx → Option (Int32)) (hrec : ∀ (x1 : Int32) (x3 : Int32) (x4 : Int32) (a0 : STx) (a2 : STx) (Sj : SSJ) (Rd : SRd) (Pg : SPg) (Pt : SPt) (Mk : SMk) (Lk : SLk) (Ck : SCk) (Jd : SJd) (Ld : SLd) (Pr : SPr) (rt : Nat) (r : Int32), rec x1 x3 x4 a0 a2 = some r → o_Cn E l D o_cls (o_tys ca) y_Tx_same cc_Tx_same (rm_Tx_same d) [.ref (ad 1), .int x1, .ref (ad 12), .int x3, .int x4] (o_cw ad ca rt Sj a0 a2 Rd Pg Pt Mk Lk Ck Jd Ld Pr) (o_cw ad ca rt Sj a0 a2 Rd Pg Pt Mk Lk Ck Jd Ld Pr) (some (.int r))) (x1 : Int32) (x3 : Int32) (x4 : Int32) (a0 : STx) (a2 : STx) (Sj : SSJ) (Rd : SRd) (Pg : SPg) (Pt : SPt) (Mk : SMk) (Lk : SLk) (Ck : SCk) (Jd : SJd) (Ld : SLd) (Pr : SPr) (rt : Nat) {r : Int32} (h : m_Tx_same_F n rec x1 x3 x4 a0 a2 = some r) : o_Cn E l D o_cls (o_tys ca) y_Tx_same cc_Tx_same (rm_Tx_same (d + 1)) [.ref (ad 1), .int x1, .ref (ad 12), .int x3, .int x4] (o_cw ad ca rt Sj a0 a2 Rd Pg Pt Mk Lk Ck Jd Ld Pr) (o_cw ad ca rt Sj a0 a2 Rd Pg Pt Mk Lk Ck Jd Ld Pr) (some (.int r)) := by
  refine o_Cn_of (by decide) (Nat.le_of_ble_eq_true rfl) ?_
  intro p e s m below meth c A ls C hD hP hS hl
  have hDD : ∀ (rt : Nat) (Sj : SSJ) (T0 : STx) (T1 : STx) (Rd : SRd) (Pg : SPg) (Pt : SPt) (Mk : SMk) (Lk : SLk) (Ck : SCk) (Jd : SJd) (Ld : SLd) (Pr : SPr), va_D A (o_cw ad ca rt Sj T0 T1 Rd Pg Pt Mk Lk Ck Jd Ld Pr) := fun _ _ _ _ _ _ _ _ _ _ _ _ _ => o_D_map hD rfl
  have hl : lv_has ls 10 [(0, .ref (ad 1)), (1, .int x1), (2, .ref (ad 12)), (3, .int x3), (4, .int x4)] := hl
  unfold m_Tx_same_F at h
  have C0 := C
  obtain ⟨hx, hb, -, -, -, hown, hts, hK, -, -⟩ := C0
  refine lv_aload_n hx hb d_Tx_same_0 rfl (lv_at hl 0 rfl) ?_
  refine lv_iload_n hx hb d_Tx_same_1 rfl (lv_at hl 1 rfl) ?_
  obtain ⟨q1, hq1, h⟩ := o_bd_some h
  refine o_V (st1 := [.int q1]) (w1 := (o_cw ad ca rt Sj a0 a2 Rd Pg Pt Mk Lk Ck Jd Ld Pr)) hE.1 C (c_Tx_kind_0 hE l x1 a0 Sj a2 Rd Pg Pt Mk Lk Ck Jd Ld Pr rt hq1) hP (hDD _ _ _ _ _ _ _ _ _ _ _ _ _) hS hl.1 rfl cw_1 k_5_64 k_4_50 k_4_51 k_1_2 k_4_52 hv_Tx_kind rfl rfl ⟨(by dsimp only [rm_Tx_same, rm_Tx_kind]; omega), (by dsimp only [rm_Tx_same, rm_Tx_kind]; omega)⟩ rfl (Nat.le_of_ble_eq_true rfl) ⟨Nat.zero_le _, Nat.zero_le _⟩ rfl d_Tx_same_2 (fun H locs hP hS => ?_)
  refine lv_istore (lv' := [(5, .int q1), (0, .ref (ad 1)), (1, .int x1), (2, .ref (ad 12)), (3, .int x3), (4, .int x4)]) hx hb d_Tx_same_5 hl (by decide) rfl (fun ls hl => ?_)
  refine lv_iload hx hb d_Tx_same_7 (lv_at hl 0 rfl) ?_
  refine lv_aload_n hx hb d_Tx_same_9 rfl (lv_at hl 3 rfl) ?_
  refine lv_iload_n hx hb d_Tx_same_10 rfl (lv_at hl 4 rfl) ?_
  obtain ⟨q2, hq2, h⟩ := o_bd_some h
  refine o_V (st1 := [.int q2, .int q1]) (w1 := (o_cw ad ca rt Sj a0 a2 Rd Pg Pt Mk Lk Ck Jd Ld Pr)) hE.1 C (c_Tx_kind_1 hE l x3 a2 Sj a0 Rd Pg Pt Mk Lk Ck Jd Ld Pr rt hq2) hP (hDD _ _ _ _ _ _ _ _ _ _ _ _ _) hS hl.1 rfl cw_12 k_5_64 k_4_50 k_4_51 k_1_2 k_4_52 hv_Tx_kind rfl rfl ⟨(by dsimp only [rm_Tx_same, rm_Tx_kind]; omega), (by dsimp only [rm_Tx_same, rm_Tx_kind]; omega)⟩ rfl (Nat.le_of_ble_eq_true rfl) ⟨Nat.zero_le _, Nat.zero_le _⟩ rfl d_Tx_same_11 (fun H locs hP hS => ?_)
  refine lv_icmp_ne (tgt := 24) hx hb d_Tx_same_14 (by decide) (fun c1 => ?_) (fun c1 => ?_)
  · replace h := o_ff c1 h
    refine lv_iconst (v := (0:Int32)) hx hb d_Tx_same_24 (by decide) ?_
    cases h
    exact o_rz (v := (0:Int32)) C o_nar0 hP hS d_Tx_same_25
  · replace h := o_tt c1 h
    refine lv_iload hx hb d_Tx_same_17 (lv_at hl 5 rfl) ?_
    refine lv_bipush (v := (40:Int32)) hx hb d_Tx_same_19 (by decide) ?_
    refine lv_icmp_le (tgt := 26) hx hb d_Tx_same_21 (by decide) (fun c2 => ?_) (fun c2 => ?_)
    · replace h := o_tt c2 h
      refine lv_iload hx hb d_Tx_same_26 (lv_at hl 0 rfl) ?_
      refine lv_iconst (v := (3:Int32)) hx hb d_Tx_same_28 (by decide) ?_
      refine lv_icmp_ne (tgt := 48) hx hb d_Tx_same_29 (by decide) (fun c3 => ?_) (fun c3 => ?_)
      · replace h := o_ff c3 h
        refine lv_iload hx hb d_Tx_same_48 (lv_at hl 0 rfl) ?_
        refine lv_iconst (v := (4:Int32)) hx hb d_Tx_same_50 (by decide) ?_
        refine lv_icmp_ne (tgt := 62) hx hb d_Tx_same_51 (by decide) (fun c4 => ?_) (fun c4 => ?_)
        · replace h := o_ff c4 h
          refine lv_aload_n hx hb d_Tx_same_62 rfl (lv_at hl 1 rfl) ?_
          refine lv_iload_n hx hb d_Tx_same_63 rfl (lv_at hl 2 rfl) ?_
          obtain ⟨q3, hq3, h⟩ := o_bd_some h
          refine o_V (st1 := [.int q3]) (w1 := (o_cw ad ca rt Sj a0 a2 Rd Pg Pt Mk Lk Ck Jd Ld Pr)) hE.1 C (c_Tx_size_0 hE l x1 a0 Sj a2 Rd Pg Pt Mk Lk Ck Jd Ld Pr rt hq3) hP (hDD _ _ _ _ _ _ _ _ _ _ _ _ _) hS hl.1 rfl cw_1 k_3_214 k_3_215 k_3_216 k_1_2 k_3_217 hv_Tx_size rfl rfl ⟨(by dsimp only [rm_Tx_same, rm_Tx_size]; omega), (by dsimp only [rm_Tx_same, rm_Tx_size]; omega)⟩ rfl (Nat.le_of_ble_eq_true rfl) ⟨Nat.zero_le _, Nat.zero_le _⟩ rfl d_Tx_same_64 (fun H locs hP hS => ?_)
          refine lv_aload_n hx hb d_Tx_same_67 rfl (lv_at hl 3 rfl) ?_
          refine lv_iload_n hx hb d_Tx_same_68 rfl (lv_at hl 4 rfl) ?_
          obtain ⟨q4, hq4, h⟩ := o_bd_some h
          refine o_V (st1 := [.int q4, .int q3]) (w1 := (o_cw ad ca rt Sj a0 a2 Rd Pg Pt Mk Lk Ck Jd Ld Pr)) hE.1 C (c_Tx_size_1 hE l x3 a2 Sj a0 Rd Pg Pt Mk Lk Ck Jd Ld Pr rt hq4) hP (hDD _ _ _ _ _ _ _ _ _ _ _ _ _) hS hl.1 rfl cw_12 k_3_214 k_3_215 k_3_216 k_1_2 k_3_217 hv_Tx_size rfl rfl ⟨(by dsimp only [rm_Tx_same, rm_Tx_size]; omega), (by dsimp only [rm_Tx_same, rm_Tx_size]; omega)⟩ rfl (Nat.le_of_ble_eq_true rfl) ⟨Nat.zero_le _, Nat.zero_le _⟩ rfl d_Tx_same_69 (fun H locs hP hS => ?_)
          refine lv_icmp_eq (tgt := 77) hx hb d_Tx_same_72 (by decide) (fun c5 => ?_) (fun c5 => ?_)
          · replace h := o_tt c5 h
            refine lv_aload_n hx hb d_Tx_same_77 rfl (lv_at hl 1 rfl) ?_
            refine lv_iload_n hx hb d_Tx_same_78 rfl (lv_at hl 2 rfl) ?_
            obtain ⟨q5, hq5, h⟩ := o_bd_some h
            refine o_V (st1 := [.int q5]) (w1 := (o_cw ad ca rt Sj a0 a2 Rd Pg Pt Mk Lk Ck Jd Ld Pr)) hE.1 C (c_Tx_firstChild_0 hE l x1 a0 Sj a2 Rd Pg Pt Mk Lk Ck Jd Ld Pr rt hq5) hP (hDD _ _ _ _ _ _ _ _ _ _ _ _ _) hS hl.1 rfl cw_1 k_3_210 k_3_211 k_3_212 k_1_2 k_3_213 hv_Tx_firstChild rfl rfl ⟨(by dsimp only [rm_Tx_same, rm_Tx_firstChild]; omega), (by dsimp only [rm_Tx_same, rm_Tx_firstChild]; omega)⟩ rfl (Nat.le_of_ble_eq_true rfl) ⟨Nat.zero_le _, Nat.zero_le _⟩ rfl d_Tx_same_79 (fun H locs hP hS => ?_)
            refine lv_istore (lv' := [(6, .int q5), (5, .int q1), (0, .ref (ad 1)), (1, .int x1), (2, .ref (ad 12)), (3, .int x3), (4, .int x4)]) hx hb d_Tx_same_82 hl (by decide) rfl (fun ls hl => ?_)
            refine lv_aload_n hx hb d_Tx_same_84 rfl (lv_at hl 4 rfl) ?_
            refine lv_iload_n hx hb d_Tx_same_85 rfl (lv_at hl 5 rfl) ?_
            obtain ⟨q6, hq6, h⟩ := o_bd_some h
            refine o_V (st1 := [.int q6]) (w1 := (o_cw ad ca rt Sj a0 a2 Rd Pg Pt Mk Lk Ck Jd Ld Pr)) hE.1 C (c_Tx_firstChild_1 hE l x3 a2 Sj a0 Rd Pg Pt Mk Lk Ck Jd Ld Pr rt hq6) hP (hDD _ _ _ _ _ _ _ _ _ _ _ _ _) hS hl.1 rfl cw_12 k_3_210 k_3_211 k_3_212 k_1_2 k_3_213 hv_Tx_firstChild rfl rfl ⟨(by dsimp only [rm_Tx_same, rm_Tx_firstChild]; omega), (by dsimp only [rm_Tx_same, rm_Tx_firstChild]; omega)⟩ rfl (Nat.le_of_ble_eq_true rfl) ⟨Nat.zero_le _, Nat.zero_le _⟩ rfl d_Tx_same_86 (fun H locs hP hS => ?_)
            refine lv_istore (lv' := [(7, .int q6), (6, .int q5), (5, .int q1), (0, .ref (ad 1)), (1, .int x1), (2, .ref (ad 12)), (3, .int x3), (4, .int x4)]) hx hb d_Tx_same_89 hl (by decide) rfl (fun ls hl => ?_)
            refine lv_iconst (v := (0:Int32)) hx hb d_Tx_same_91 (by decide) ?_
            refine lv_istore (lv' := [(8, .int (0:Int32)), (7, .int q6), (6, .int q5), (5, .int q1), (0, .ref (ad 1)), (1, .int x1), (2, .ref (ad 12)), (3, .int x3), (4, .int x4)]) hx hb d_Tx_same_92 hl (by decide) rfl (fun ls hl => ?_)
            obtain ⟨q12, hq12, h⟩ := o_bd_some h
            refine o_sim2 (AH := fun zz => o_At p l e (rm_Tx_same (d + 1)) s m _ below meth c _ o_cls D A 10 94 [] (o_cw ad ca rt Sj a0 a2 Rd Pg Pt Mk Lk Ck Jd Ld Pr) [(0, .ref (ad 1)), (1, .int x1), (2, .ref (ad 12)), (3, .int x3), (4, .int x4), (5, .int q1), (6, .int zz.1), (7, .int zz.2.1), (8, .int zz.2.2)]) (AX := fun qq => if qq.1 = 1 then o_At p l e (rm_Tx_same (d + 1)) s m _ below meth c _ o_cls D A 10 149 [] (o_cw ad ca rt Sj a0 a2 Rd Pg Pt Mk Lk Ck Jd Ld Pr) [] else o_At p l e (rm_Tx_same (d + 1)) s m _ below meth c _ o_cls D A 10 173 [] (o_cw ad ca rt Sj a0 a2 Rd Pg Pt Mk Lk Ck Jd Ld Pr) []) (fun zz qq h h0 h1 => w_Tx_same_b94_01 hE C hDD d rec hrec n x1 x3 x4 q1 a0 a2 Sj Rd Pg Pt Mk Lk Ck Jd Ld Pr rt zz qq h h0 h1) n _ q12 hq12 ?_ _ _ _ hP hS (lv_sub hl [4, 5, 6, 7, 8, 3, 2, 1, 0] rfl)
            by_cases c10 : q12.1 = 1
            · replace h := o_tt c10 h
              refine o_ip c10 ?_
              intro H locs ls hP hS hl
              refine lv_iconst (v := (0:Int32)) hx hb d_Tx_same_149 (by decide) ?_
              cases h
              exact o_rz (v := (0:Int32)) C o_nar0 hP hS d_Tx_same_150
            replace h := o_ff c10 h
            refine o_in_ c10 ?_
            intro H locs ls hP hS hl
            refine lv_iconst (v := (1:Int32)) hx hb d_Tx_same_173 (by decide) ?_
            cases h
            exact o_rz (v := (1:Int32)) C o_nar1 hP hS d_Tx_same_174
          · replace h := o_ff c5 h
            refine lv_iconst (v := (0:Int32)) hx hb d_Tx_same_75 (by decide) ?_
            cases h
            exact o_rz (v := (0:Int32)) C o_nar0 hP hS d_Tx_same_76
        · replace h := o_tt c4 h
          refine lv_aload_n hx hb d_Tx_same_54 rfl (lv_at hl 1 rfl) ?_
          refine lv_iload_n hx hb d_Tx_same_55 rfl (lv_at hl 2 rfl) ?_
          refine lv_aload_n hx hb d_Tx_same_56 rfl (lv_at hl 3 rfl) ?_
          refine lv_iload_n hx hb d_Tx_same_57 rfl (lv_at hl 4 rfl) ?_
          obtain ⟨q13, hq13, h⟩ := o_bd_some h
          refine o_S (st1 := [.int q13]) (w1 := (o_cw ad ca rt Sj a0 a2 Rd Pg Pt Mk Lk Ck Jd Ld Pr)) hE.1 C (c_Tx_sameString_01 hE l n x1 x3 a0 a2 Sj Rd Pg Pt Mk Lk Ck Jd Ld Pr rt hq13) hP (hDD _ _ _ _ _ _ _ _ _ _ _ _ _) hS hl.1 k_3_218 k_3_219 k_1_2 k_3_220 hs_Tx_sameString rfl rfl ⟨(by dsimp only [rm_Tx_same, rm_Tx_sameString]; omega), (by dsimp only [rm_Tx_same, rm_Tx_sameString]; omega)⟩ rfl (Nat.le_of_ble_eq_true rfl) ⟨Nat.zero_le _, Nat.zero_le _⟩ rfl d_Tx_same_58 (fun H locs hP hS => ?_)
          obtain ⟨g11, h⟩ := o_gd_some h
          cases h
          exact o_rz C (o_zb_nar g11) hP hS d_Tx_same_61
      · replace h := o_tt c3 h
        refine lv_aload_n hx hb d_Tx_same_32 rfl (lv_at hl 1 rfl) ?_
        refine lv_iload_n hx hb d_Tx_same_33 rfl (lv_at hl 2 rfl) ?_
        refine lv_aload_n hx hb d_Tx_same_34 rfl (lv_at hl 3 rfl) ?_
        refine lv_iload_n hx hb d_Tx_same_35 rfl (lv_at hl 4 rfl) ?_
        obtain ⟨q14, hq14, h⟩ := o_bd_some h
        refine o_S (st1 := [.int q14]) (w1 := (o_cw ad ca rt Sj a0 a2 Rd Pg Pt Mk Lk Ck Jd Ld Pr)) hE.1 C (c_Tx_compare_01 hE l n x1 x3 a0 a2 Sj Rd Pg Pt Mk Lk Ck Jd Ld Pr rt hq14) hP (hDD _ _ _ _ _ _ _ _ _ _ _ _ _) hS hl.1 k_6_184 k_6_185 k_1_2 k_6_186 hs_Tx_compare rfl rfl ⟨(by dsimp only [rm_Tx_same, rm_Tx_compare]; omega), (by dsimp only [rm_Tx_same, rm_Tx_compare]; omega)⟩ rfl (Nat.le_of_ble_eq_true rfl) ⟨Nat.zero_le _, Nat.zero_le _⟩ rfl d_Tx_same_36 (fun H locs hP hS => ?_)
        refine lv_if_ne (tgt := 46) hx hb d_Tx_same_39 (by decide) (fun c12 => ?_) (fun c12 => ?_)
        · replace h := o_ff c12 h
          refine lv_iconst (v := (0:Int32)) hx hb d_Tx_same_46 (by decide) ?_
          cases h
          exact o_rz (v := (0:Int32)) C o_nar0 hP hS d_Tx_same_47
        · replace h := o_tt c12 h
          refine lv_iconst (v := (1:Int32)) hx hb d_Tx_same_42 (by decide) ?_
          refine lv_goto (tgt := 47) hx hb d_Tx_same_43 (by decide) ?_
          cases h
          exact o_rz (v := (1:Int32)) C o_nar1 hP hS d_Tx_same_47
    · replace h := o_ff c2 h
      refine lv_iconst (v := (0:Int32)) hx hb d_Tx_same_24 (by decide) ?_
      cases h
      exact o_rz (v := (0:Int32)) C o_nar0 hP hS d_Tx_same_25
set_option maxHeartbeats 4000000 in
set_option maxRecDepth 100000 in
theorem c_Tx_same_01 {E : (Nat → Prop) → State → Heap → Prop} {D : va_G} {ad kd sd vd xd : Nat → Nat} {ca : Nat → ClassId} (hE : o_EK E kd sd vd xd) (l : Launch) (n : Nat) (d : Nat) (x1 : Int32) (x3 : Int32) (x4 : Int32) (a0 : STx) (a2 : STx) (Sj : SSJ) (Rd : SRd) (Pg : SPg) (Pt : SPt) (Mk : SMk) (Lk : SLk) (Ck : SCk) (Jd : SJd) (Ld : SLd) (Pr : SPr) (rt : Nat) {r : Int32} (h : m_Tx_same n d x1 x3 x4 a0 a2 = some r) : o_Cn E l D o_cls (o_tys ca) y_Tx_same cc_Tx_same (rm_Tx_same d) [.ref (ad 1), .int x1, .ref (ad 12), .int x3, .int x4] (o_cw ad ca rt Sj a0 a2 Rd Pg Pt Mk Lk Ck Jd Ld Pr) (o_cw ad ca rt Sj a0 a2 Rd Pg Pt Mk Lk Ck Jd Ld Pr) (some (.int r)) := by
  induction d generalizing x1 x3 x4 a0 a2 Sj Rd Pg Pt Mk Lk Ck Jd Ld Pr rt r with
  | zero => cases h
  | succ d ih =>
    exact c_Tx_same_01_F hE l n d (m_Tx_same n d) (fun x1 x3 x4 a0 a2 Sj Rd Pg Pt Mk Lk Ck Jd Ld Pr rt r h => ih x1 x3 x4 a0 a2 Sj Rd Pg Pt Mk Lk Ck Jd Ld Pr rt h) _ _ _ _ _ _ _ _ _ _ _ _ _ _ _ _ h
set_option maxHeartbeats 4000000 in
set_option maxRecDepth 100000 in
theorem w_Jd_isOneOf_b12 {E : (Nat → Prop) → State → Heap → Prop} {p : Program} {l : Launch} {e : Env} {s : State} {m : MethodId} {args : Array Value} {below : List Frame} {meth : Method} {c : Code} {D : va_G} {ad kd sd vd xd : Nat → Nat} {ca : Nat → ClassId} {A : Nat → Prop} {Q : State → Prop} (hE : o_EK E kd sd vd xd) (C : o_Cx E p s m args meth c D o_cls (o_tys ca) "SchemaJudge$Judge" b_Jd_isOneOf (some .boolean) 5 cc_Jd_isOneOf A) (hDD : ∀ (rt : Nat) (Sj : SSJ) (T0 : STx) (T1 : STx) (Rd : SRd) (Pg : SPg) (Pt : SPt) (Mk : SMk) (Lk : SLk) (Ck : SCk) (Jd : SJd) (Ld : SLd) (Pr : SPr), va_D A (o_cw ad ca rt Sj T0 T1 Rd Pg Pt Mk Lk Ck Jd Ld Pr)) (n : Nat) (u12_x1 : Int32) (u12_x2 : Int32) (u12_T0 : STx) (u12_T1 : STx) (u12_Sj : SSJ) (u12_Rd : SRd) (u12_Pg : SPg) (u12_Pt : SPt) (u12_Mk : SMk) (u12_Lk : SLk) (u12_Ck : SCk) (u12_Jd : SJd) (u12_Ld : SLd) (u12_Pr : SPr) (u12_rt : Nat) (z : Int32 × Int32) (q : Nat × Int32 × Int32) (h : m_Jd_isOneOf_b12 n u12_x1 u12_x2 u12_T0 u12_T1 z = some q) (h0 : q.1 = 0 → o_At p l e rm_Jd_isOneOf s m args below meth c Q o_cls D A 5 12 [] (o_cw ad ca u12_rt u12_Sj u12_T0 u12_T1 u12_Rd u12_Pg u12_Pt u12_Mk u12_Lk u12_Ck u12_Jd u12_Ld u12_Pr) [(0, .ref (ad 49)), (1, .int u12_x1), (2, .int u12_x2), (3, .int q.2.1), (4, .int q.2.2)]) (h1 : q.1 ≠ 0 → (if q.1 = 1 then o_At p l e rm_Jd_isOneOf s m args below meth c Q o_cls D A 5 42 [] (o_cw ad ca u12_rt u12_Sj u12_T0 u12_T1 u12_Rd u12_Pg u12_Pt u12_Mk u12_Lk u12_Ck u12_Jd u12_Ld u12_Pr) [] else o_At p l e rm_Jd_isOneOf s m args below meth c Q o_cls D A 5 59 [] (o_cw ad ca u12_rt u12_Sj u12_T0 u12_T1 u12_Rd u12_Pg u12_Pt u12_Mk u12_Lk u12_Ck u12_Jd u12_Ld u12_Pr) [])) : o_At p l e rm_Jd_isOneOf s m args below meth c Q o_cls D A 5 12 [] (o_cw ad ca u12_rt u12_Sj u12_T0 u12_T1 u12_Rd u12_Pg u12_Pt u12_Mk u12_Lk u12_Ck u12_Jd u12_Ld u12_Pr) [(0, .ref (ad 49)), (1, .int u12_x1), (2, .int u12_x2), (3, .int z.1), (4, .int z.2)] := by
  unfold m_Jd_isOneOf_b12 at h
  intro H locs ls hP hS hl
  have C0 := C
  obtain ⟨hx, hb, -, -, -, hown, hts, hK, -, -⟩ := C0
  refine lv_iload hx hb d_Jd_isOneOf_12 (lv_at hl 4 rfl) ?_
  refine lv_aload_n hx hb d_Jd_isOneOf_14 rfl (lv_at hl 0 rfl) ?_
  refine o_get (v := .ref (ad 1)) C in_Jd hP 49 cw_49 rfl 0 (by decide) k_2_74 rfl rfl d_Jd_isOneOf_15 ?_
  refine lv_iload_n hx hb d_Jd_isOneOf_18 rfl (lv_at hl 1 rfl) ?_
  obtain ⟨q2, hq2, h⟩ := o_bd_some h
  refine o_V (st1 := [.int q2, .int z.2]) (w1 := (o_cw ad ca u12_rt u12_Sj u12_T0 u12_T1 u12_Rd u12_Pg u12_Pt u12_Mk u12_Lk u12_Ck u12_Jd u12_Ld u12_Pr)) hE.1 C (c_Tx_size_0 hE l u12_x1 u12_T0 u12_Sj u12_T1 u12_Rd u12_Pg u12_Pt u12_Mk u12_Lk u12_Ck u12_Jd u12_Ld u12_Pr u12_rt hq2) hP (hDD _ _ _ _ _ _ _ _ _ _ _ _ _) hS hl.1 rfl cw_1 k_6_26 k_3_215 k_3_216 k_1_2 k_3_217 hv_Tx_size rfl rfl ⟨(Nat.le_of_ble_eq_true rfl), (Nat.le_of_ble_eq_true rfl)⟩ rfl (Nat.le_of_ble_eq_true rfl) ⟨Nat.zero_le _, Nat.zero_le _⟩ rfl d_Jd_isOneOf_19 (fun H locs hP hS => ?_)
  refine lv_icmp_ge (tgt := 59) hx hb d_Jd_isOneOf_22 (by decide) (fun c1 => ?_) (fun c1 => ?_)
  · replace h := o_tt c1 h
    cases h
    exact h1 (Nat.succ_ne_zero 1) _ _ _ hP hS (lv_sub hl [] rfl)
  · replace h := o_ff c1 h
    refine lv_aload_n hx hb d_Jd_isOneOf_25 rfl (lv_at hl 0 rfl) ?_
    refine o_get (v := .ref (ad 1)) C in_Jd hP 49 cw_49 rfl 0 (by decide) k_2_74 rfl rfl d_Jd_isOneOf_26 ?_
    refine lv_iload_n hx hb d_Jd_isOneOf_29 rfl (lv_at hl 3 rfl) ?_
    refine lv_aload_n hx hb d_Jd_isOneOf_30 rfl (lv_at hl 0 rfl) ?_
    refine o_get (v := .ref (ad 12)) C in_Jd hP 49 cw_49 rfl 2 (by decide) k_2_76 rfl rfl d_Jd_isOneOf_31 ?_
    refine lv_iload_n hx hb d_Jd_isOneOf_34 rfl (lv_at hl 2 rfl) ?_
    refine lv_iconst (v := (0:Int32)) hx hb d_Jd_isOneOf_35 (by decide) ?_
    obtain ⟨q3, hq3, h⟩ := o_bd_some h
    refine o_S (st1 := [.int q3]) (w1 := (o_cw ad ca u12_rt u12_Sj u12_T0 u12_T1 u12_Rd u12_Pg u12_Pt u12_Mk u12_Lk u12_Ck u12_Jd u12_Ld u12_Pr)) hE.1 C (c_Tx_same_01 hE l n 43 z.1 u12_x2 (0:Int32) u12_T0 u12_T1 u12_Sj u12_Rd u12_Pg u12_Pt u12_Mk u12_Lk u12_Ck u12_Jd u12_Ld u12_Pr u12_rt hq3) hP (hDD _ _ _ _ _ _ _ _ _ _ _ _ _) hS hl.1 k_6_181 k_6_182 k_1_2 k_6_183 hs_Tx_same rfl rfl ⟨(Nat.le_of_ble_eq_true rfl), (Nat.le_of_ble_eq_true rfl)⟩ rfl (Nat.le_of_ble_eq_true rfl) ⟨Nat.zero_le _, Nat.zero_le _⟩ rfl d_Jd_isOneOf_36 (fun H locs hP hS => ?_)
    refine lv_if_eq (tgt := 44) hx hb d_Jd_isOneOf_39 (by decide) (fun c2 => ?_) (fun c2 => ?_)
    · replace h := o_tt c2 h
      refine lv_aload_n hx hb d_Jd_isOneOf_44 rfl (lv_at hl 0 rfl) ?_
      refine o_get (v := .ref (ad 1)) C in_Jd hP 49 cw_49 rfl 0 (by decide) k_2_74 rfl rfl d_Jd_isOneOf_45 ?_
      refine lv_iload_n hx hb d_Jd_isOneOf_48 rfl (lv_at hl 3 rfl) ?_
      obtain ⟨q4, hq4, h⟩ := o_bd_some h
      refine o_V (st1 := [.int q4]) (w1 := (o_cw ad ca u12_rt u12_Sj u12_T0 u12_T1 u12_Rd u12_Pg u12_Pt u12_Mk u12_Lk u12_Ck u12_Jd u12_Ld u12_Pr)) hE.1 C (c_Tx_nextChild_0 hE l z.1 u12_T0 u12_Sj u12_T1 u12_Rd u12_Pg u12_Pt u12_Mk u12_Lk u12_Ck u12_Jd u12_Ld u12_Pr u12_rt hq4) hP (hDD _ _ _ _ _ _ _ _ _ _ _ _ _) hS hl.1 rfl cw_1 k_6_28 k_3_222 k_3_223 k_1_2 k_3_224 hv_Tx_nextChild rfl rfl ⟨(Nat.le_of_ble_eq_true rfl), (Nat.le_of_ble_eq_true rfl)⟩ rfl (Nat.le_of_ble_eq_true rfl) ⟨Nat.zero_le _, Nat.zero_le _⟩ rfl d_Jd_isOneOf_49 (fun H locs hP hS => ?_)
      refine lv_istore_n (lv' := [(3, .int q4), (0, .ref (ad 49)), (1, .int u12_x1), (2, .int u12_x2), (4, .int z.2)]) hx hb d_Jd_isOneOf_52 rfl hl (by decide) rfl (fun ls hl => ?_)
      obtain ⟨x4_53, ex4_53⟩ : ∃ y : Int32, y = z.2 + (1:Int32) := ⟨_, rfl⟩
      replace h := o_nm_at ex4_53 h
      refine lv_iinc (v := x4_53) (lv' := [(4, .int x4_53), (3, .int q4), (0, .ref (ad 49)), (1, .int u12_x1), (2, .int u12_x2)]) hx hb d_Jd_isOneOf_53 hl (k := 4) rfl (by rw [ex4_53]; rfl) (by decide) rfl (fun ls hl => ?_)
      refine lv_goto (tgt := 12) hx hb d_Jd_isOneOf_56 (by decide) ?_
      cases h
      exact h0 rfl _ _ _ hP hS (lv_sub hl [2, 3, 4, 1, 0] rfl)
    · replace h := o_ff c2 h
      cases h
      exact h1 (Nat.succ_ne_zero 0) _ _ _ hP hS (lv_sub hl [] rfl)
set_option maxHeartbeats 4000000 in
set_option maxRecDepth 100000 in
theorem c_Jd_isOneOf {E : (Nat → Prop) → State → Heap → Prop} {D : va_G} {ad kd sd vd xd : Nat → Nat} {ca : Nat → ClassId} (hE : o_EK E kd sd vd xd) (l : Launch) (n : Nat) (x1 : Int32) (x2 : Int32) (T0 : STx) (T1 : STx) (Sj : SSJ) (Rd : SRd) (Pg : SPg) (Pt : SPt) (Mk : SMk) (Lk : SLk) (Ck : SCk) (Jd : SJd) (Ld : SLd) (Pr : SPr) (rt : Nat) {r : Int32} (h : m_Jd_isOneOf n x1 x2 T0 T1 = some r) : o_Cn E l D o_cls (o_tys ca) y_Jd_isOneOf cc_Jd_isOneOf rm_Jd_isOneOf [.ref (ad 49), .int x1, .int x2] (o_cw ad ca rt Sj T0 T1 Rd Pg Pt Mk Lk Ck Jd Ld Pr) (o_cw ad ca rt Sj T0 T1 Rd Pg Pt Mk Lk Ck Jd Ld Pr) (some (.int r)) := by
  refine o_Cn_of (by decide) (Nat.le_of_ble_eq_true rfl) ?_
  intro p e s m below meth c A ls C hD hP hS hl
  have hDD : ∀ (rt : Nat) (Sj : SSJ) (T0 : STx) (T1 : STx) (Rd : SRd) (Pg : SPg) (Pt : SPt) (Mk : SMk) (Lk : SLk) (Ck : SCk) (Jd : SJd) (Ld : SLd) (Pr : SPr), va_D A (o_cw ad ca rt Sj T0 T1 Rd Pg Pt Mk Lk Ck Jd Ld Pr) := fun _ _ _ _ _ _ _ _ _ _ _ _ _ => o_D_map hD rfl
  have hl : lv_has ls 5 [(0, .ref (ad 49)), (1, .int x1), (2, .int x2)] := hl
  unfold m_Jd_isOneOf at h
  have C0 := C
  obtain ⟨hx, hb, -, -, -, hown, hts, hK, -, -⟩ := C0
  refine lv_aload_n hx hb d_Jd_isOneOf_0 rfl (lv_at hl 0 rfl) ?_
  refine o_get (v := .ref (ad 1)) C in_Jd hP 49 cw_49 rfl 0 (by decide) k_2_74 rfl rfl d_Jd_isOneOf_1 ?_
  refine lv_iload_n hx hb d_Jd_isOneOf_4 rfl (lv_at hl 1 rfl) ?_
  obtain ⟨q1, hq1, h⟩ := o_bd_some h
  refine o_V (st1 := [.int q1]) (w1 := (o_cw ad ca rt Sj T0 T1 Rd Pg Pt Mk Lk Ck Jd Ld Pr)) hE.1 C (c_Tx_firstChild_0 hE l x1 T0 Sj T1 Rd Pg Pt Mk Lk Ck Jd Ld Pr rt hq1) hP (hDD _ _ _ _ _ _ _ _ _ _ _ _ _) hS hl.1 rfl cw_1 k_6_25 k_3_211 k_3_212 k_1_2 k_3_213 hv_Tx_firstChild rfl rfl ⟨(Nat.le_of_ble_eq_true rfl), (Nat.le_of_ble_eq_true rfl)⟩ rfl (Nat.le_of_ble_eq_true rfl) ⟨Nat.zero_le _, Nat.zero_le _⟩ rfl d_Jd_isOneOf_5 (fun H locs hP hS => ?_)
  refine lv_istore_n (lv' := [(3, .int q1), (0, .ref (ad 49)), (1, .int x1), (2, .int x2)]) hx hb d_Jd_isOneOf_8 rfl hl (by decide) rfl (fun ls hl => ?_)
  refine lv_iconst (v := (0:Int32)) hx hb d_Jd_isOneOf_9 (by decide) ?_
  refine lv_istore (lv' := [(4, .int (0:Int32)), (3, .int q1), (0, .ref (ad 49)), (1, .int x1), (2, .int x2)]) hx hb d_Jd_isOneOf_10 hl (by decide) rfl (fun ls hl => ?_)
  obtain ⟨q5, hq5, h⟩ := o_bd_some h
  refine o_sim2 (AH := fun zz => o_At p l e rm_Jd_isOneOf s m _ below meth c _ o_cls D A 5 12 [] (o_cw ad ca rt Sj T0 T1 Rd Pg Pt Mk Lk Ck Jd Ld Pr) [(0, .ref (ad 49)), (1, .int x1), (2, .int x2), (3, .int zz.1), (4, .int zz.2)]) (AX := fun qq => if qq.1 = 1 then o_At p l e rm_Jd_isOneOf s m _ below meth c _ o_cls D A 5 42 [] (o_cw ad ca rt Sj T0 T1 Rd Pg Pt Mk Lk Ck Jd Ld Pr) [] else o_At p l e rm_Jd_isOneOf s m _ below meth c _ o_cls D A 5 59 [] (o_cw ad ca rt Sj T0 T1 Rd Pg Pt Mk Lk Ck Jd Ld Pr) []) (fun zz qq h h0 h1 => w_Jd_isOneOf_b12 hE C hDD n x1 x2 T0 T1 Sj Rd Pg Pt Mk Lk Ck Jd Ld Pr rt zz qq h h0 h1) n _ q5 hq5 ?_ _ _ _ hP hS (lv_sub hl [2, 3, 4, 1, 0] rfl)
  by_cases c3 : q5.1 = 1
  · replace h := o_tt c3 h
    refine o_ip c3 ?_
    intro H locs ls hP hS hl
    refine lv_iconst (v := (1:Int32)) hx hb d_Jd_isOneOf_42 (by decide) ?_
    cases h
    exact o_rz (v := (1:Int32)) C o_nar1 hP hS d_Jd_isOneOf_43
  replace h := o_ff c3 h
  refine o_in_ c3 ?_
  intro H locs ls hP hS hl
  refine lv_iconst (v := (0:Int32)) hx hb d_Jd_isOneOf_59 (by decide) ?_
  cases h
  exact o_rz (v := (0:Int32)) C o_nar0 hP hS d_Jd_isOneOf_60
set_option maxHeartbeats 4000000 in
set_option maxRecDepth 100000 in
theorem w_Ld_restReaches_b3 {E : (Nat → Prop) → State → Heap → Prop} {p : Program} {l : Launch} {e : Env} {s : State} {m : MethodId} {args : Array Value} {below : List Frame} {meth : Method} {c : Code} {D : va_G} {ad kd sd vd xd : Nat → Nat} {ca : Nat → ClassId} {A : Nat → Prop} {Q : State → Prop} (hE : o_EK E kd sd vd xd) (C : o_Cx E p s m args meth c D o_cls (o_tys ca) "SchemaJudge$LongDivision" b_Ld_restReaches (some .boolean) 2 cc_Ld_restReaches A) (hDD : ∀ (rt : Nat) (Sj : SSJ) (T0 : STx) (T1 : STx) (Rd : SRd) (Pg : SPg) (Pt : SPt) (Mk : SMk) (Lk : SLk) (Ck : SCk) (Jd : SJd) (Ld : SLd) (Pr : SPr), va_D A (o_cw ad ca rt Sj T0 T1 Rd Pg Pt Mk Lk Ck Jd Ld Pr)) (n : Nat) (u3_Ld : SLd) (u3_Sj : SSJ) (u3_T0 : STx) (u3_T1 : STx) (u3_Rd : SRd) (u3_Pg : SPg) (u3_Pt : SPt) (u3_Mk : SMk) (u3_Lk : SLk) (u3_Ck : SCk) (u3_Jd : SJd) (u3_Pr : SPr) (u3_rt : Nat) (z : Int32) (q : Nat × Int32) (h : m_Ld_restReaches_b3 n u3_Ld z = some q) (h0 : q.1 = 0 → o_At p l e rm_Ld_restReaches s m args below meth c Q o_cls D A 2 3 [] (o_cw ad ca u3_rt u3_Sj u3_T0 u3_T1 u3_Rd u3_Pg u3_Pt u3_Mk u3_Lk u3_Ck u3_Jd u3_Ld u3_Pr) [(0, .ref (ad 51)), (1, .int q.2)]) (h1 : q.1 ≠ 0 → (if q.1 = 1 then o_At p l e rm_Ld_restReaches s m args below meth c Q o_cls D A 2 23 [] (o_cw ad ca u3_rt u3_Sj u3_T0 u3_T1 u3_Rd u3_Pg u3_Pt u3_Mk u3_Lk u3_Ck u3_Jd u3_Ld u3_Pr) [(0, .ref (ad 51)), (1, .int q.2)] else o_At p l e rm_Ld_restReaches s m args below meth c Q o_cls D A 2 51 [] (o_cw ad ca u3_rt u3_Sj u3_T0 u3_T1 u3_Rd u3_Pg u3_Pt u3_Mk u3_Lk u3_Ck u3_Jd u3_Ld u3_Pr) [])) : o_At p l e rm_Ld_restReaches s m args below meth c Q o_cls D A 2 3 [] (o_cw ad ca u3_rt u3_Sj u3_T0 u3_T1 u3_Rd u3_Pg u3_Pt u3_Mk u3_Lk u3_Ck u3_Jd u3_Ld u3_Pr) [(0, .ref (ad 51)), (1, .int z)] := by
  unfold m_Ld_restReaches_b3 at h
  intro H locs ls hP hS hl
  have C0 := C
  obtain ⟨hx, hb, -, -, -, hown, hts, hK, -, -⟩ := C0
  refine lv_iload_n hx hb d_Ld_restReaches_3 rfl (lv_at hl 1 rfl) ?_
  refine lv_if_lt (tgt := 51) hx hb d_Ld_restReaches_4 (by decide) (fun c1 => ?_) (fun c1 => ?_)
  · replace h := o_tt c1 h
    cases h
    exact h1 (Nat.succ_ne_zero 1) _ _ _ hP hS (lv_sub hl [] rfl)
  · replace h := o_ff c1 h
    refine lv_aload_n hx hb d_Ld_restReaches_7 rfl (lv_at hl 0 rfl) ?_
    refine o_get (v := .ref (ad 53)) C in_Ld hP 51 cw_51 rfl 1 (by decide) k_2_51 rfl rfl d_Ld_restReaches_8 ?_
    refine lv_iload_n hx hb d_Ld_restReaches_11 rfl (lv_at hl 1 rfl) ?_
    obtain ⟨g2, h⟩ := o_gd_some h
    refine o_lald (f := (Ld_rest u3_Ld)) C hP 53 42 cw_53 rfl g2 d_Ld_restReaches_12 ?_
    refine lv_aload_n hx hb d_Ld_restReaches_13 rfl (lv_at hl 0 rfl) ?_
    refine o_get (v := .ref (ad 52)) C in_Ld hP 51 cw_51 rfl 0 (by decide) k_2_50 rfl rfl d_Ld_restReaches_14 ?_
    refine lv_iload_n hx hb d_Ld_restReaches_17 rfl (lv_at hl 1 rfl) ?_
    obtain ⟨g3, h⟩ := o_gd_some h
    refine o_lald (f := (Ld_divisor u3_Ld)) C hP 52 41 cw_52 rfl g3 d_Ld_restReaches_18 ?_
    refine W.lcmp hx hb d_Ld_restReaches_19 ?_
    refine lv_if_eq (tgt := 45) hx hb d_Ld_restReaches_20 (by decide) (fun c4 => ?_) (fun c4 => ?_)
    · replace h := o_tt c4 h
      obtain ⟨x1_45, ex1_45⟩ : ∃ y : Int32, y = z + (-1:Int32) := ⟨_, rfl⟩
      replace h := o_nm_at ex1_45 h
      refine lv_iinc (v := x1_45) (lv' := [(1, .int x1_45), (0, .ref (ad 51))]) hx hb d_Ld_restReaches_45 hl (k := 1) rfl (by rw [ex1_45]; rfl) (by decide) rfl (fun ls hl => ?_)
      refine lv_goto (tgt := 3) hx hb d_Ld_restReaches_48 (by decide) ?_
      cases h
      exact h0 rfl _ _ _ hP hS (lv_sub hl [1, 0] rfl)
    · replace h := o_ff c4 h
      cases h
      exact h1 (Nat.succ_ne_zero 0) _ _ _ hP hS (lv_sub hl [0, 1] rfl)
set_option maxHeartbeats 4000000 in
set_option maxRecDepth 100000 in
theorem c_Ld_restReaches {E : (Nat → Prop) → State → Heap → Prop} {D : va_G} {ad kd sd vd xd : Nat → Nat} {ca : Nat → ClassId} (hE : o_EK E kd sd vd xd) (l : Launch) (n : Nat)  (Ld : SLd) (Sj : SSJ) (T0 : STx) (T1 : STx) (Rd : SRd) (Pg : SPg) (Pt : SPt) (Mk : SMk) (Lk : SLk) (Ck : SCk) (Jd : SJd) (Pr : SPr) (rt : Nat) {r : Int32} (h : m_Ld_restReaches n Ld = some r) : o_Cn E l D o_cls (o_tys ca) y_Ld_restReaches cc_Ld_restReaches rm_Ld_restReaches [.ref (ad 51)] (o_cw ad ca rt Sj T0 T1 Rd Pg Pt Mk Lk Ck Jd Ld Pr) (o_cw ad ca rt Sj T0 T1 Rd Pg Pt Mk Lk Ck Jd Ld Pr) (some (.int r)) := by
  refine o_Cn_of (by decide) (Nat.le_of_ble_eq_true rfl) ?_
  intro p e s m below meth c A ls C hD hP hS hl
  have hDD : ∀ (rt : Nat) (Sj : SSJ) (T0 : STx) (T1 : STx) (Rd : SRd) (Pg : SPg) (Pt : SPt) (Mk : SMk) (Lk : SLk) (Ck : SCk) (Jd : SJd) (Ld : SLd) (Pr : SPr), va_D A (o_cw ad ca rt Sj T0 T1 Rd Pg Pt Mk Lk Ck Jd Ld Pr) := fun _ _ _ _ _ _ _ _ _ _ _ _ _ => o_D_map hD rfl
  have hl : lv_has ls 2 [(0, .ref (ad 51))] := hl
  unfold m_Ld_restReaches at h
  have C0 := C
  obtain ⟨hx, hb, -, -, -, hown, hts, hK, -, -⟩ := C0
  refine lv_bipush (v := (6:Int32)) hx hb d_Ld_restReaches_0 (by decide) ?_
  refine lv_istore_n (lv' := [(1, .int (6:Int32)), (0, .ref (ad 51))]) hx hb d_Ld_restReaches_2 rfl hl (by decide) rfl (fun ls hl => ?_)
  obtain ⟨q1, hq1, h⟩ := o_bd_some h
  refine o_sim2 (AH := fun zz => o_At p l e rm_Ld_restReaches s m _ below meth c _ o_cls D A 2 3 [] (o_cw ad ca rt Sj T0 T1 Rd Pg Pt Mk Lk Ck Jd Ld Pr) [(0, .ref (ad 51)), (1, .int zz)]) (AX := fun qq => if qq.1 = 1 then o_At p l e rm_Ld_restReaches s m _ below meth c _ o_cls D A 2 23 [] (o_cw ad ca rt Sj T0 T1 Rd Pg Pt Mk Lk Ck Jd Ld Pr) [(0, .ref (ad 51)), (1, .int qq.2)] else o_At p l e rm_Ld_restReaches s m _ below meth c _ o_cls D A 2 51 [] (o_cw ad ca rt Sj T0 T1 Rd Pg Pt Mk Lk Ck Jd Ld Pr) []) (fun zz qq h h0 h1 => w_Ld_restReaches_b3 hE C hDD n Ld Sj T0 T1 Rd Pg Pt Mk Lk Ck Jd Pr rt zz qq h h0 h1) n _ q1 hq1 ?_ _ _ _ hP hS (lv_sub hl [1, 0] rfl)
  by_cases c8 : q1.1 = 1
  · replace h := o_tt c8 h
    refine o_ip c8 ?_
    intro H locs ls hP hS hl
    refine lv_aload_n hx hb d_Ld_restReaches_23 rfl (lv_at hl 0 rfl) ?_
    refine o_get (v := .ref (ad 53)) C in_Ld hP 51 cw_51 rfl 1 (by decide) k_2_51 rfl rfl d_Ld_restReaches_24 ?_
    refine lv_iload_n hx hb d_Ld_restReaches_27 rfl (lv_at hl 1 rfl) ?_
    obtain ⟨g5, h⟩ := o_gd_some h
    refine o_lald (f := (Ld_rest Ld)) C hP 53 42 cw_53 rfl g5 d_Ld_restReaches_28 ?_
    refine lv_aload_n hx hb d_Ld_restReaches_29 rfl (lv_at hl 0 rfl) ?_
    refine o_get (v := .ref (ad 52)) C in_Ld hP 51 cw_51 rfl 0 (by decide) k_2_50 rfl rfl d_Ld_restReaches_30 ?_
    refine lv_iload_n hx hb d_Ld_restReaches_33 rfl (lv_at hl 1 rfl) ?_
    obtain ⟨g6, h⟩ := o_gd_some h
    refine o_lald (f := (Ld_divisor Ld)) C hP 52 41 cw_52 rfl g6 d_Ld_restReaches_34 ?_
    refine W.lcmp hx hb d_Ld_restReaches_35 ?_
    refine lv_if_le (tgt := 43) hx hb d_Ld_restReaches_36 (by decide) (fun c7 => ?_) (fun c7 => ?_)
    · replace h := o_tt c7 h
      refine lv_iconst (v := (0:Int32)) hx hb d_Ld_restReaches_43 (by decide) ?_
      cases h
      exact o_rz (v := (0:Int32)) C o_nar0 hP hS d_Ld_restReaches_44
    · replace h := o_ff c7 h
      refine lv_iconst (v := (1:Int32)) hx hb d_Ld_restReaches_39 (by decide) ?_
      refine lv_goto (tgt := 44) hx hb d_Ld_restReaches_40 (by decide) ?_
      cases h
      exact o_rz (v := (1:Int32)) C o_nar1 hP hS d_Ld_restReaches_44
  replace h := o_ff c8 h
  refine o_in_ c8 ?_
  intro H locs ls hP hS hl
  refine lv_iconst (v := (1:Int32)) hx hb d_Ld_restReaches_51 (by decide) ?_
  cases h
  exact o_rz (v := (1:Int32)) C o_nar1 hP hS d_Ld_restReaches_52
set_option maxHeartbeats 4000000 in
set_option maxRecDepth 100000 in
theorem w_Ld_reduce_j58 {E : (Nat → Prop) → State → Heap → Prop} {p : Program} {l : Launch} {e : Env} {s : State} {m : MethodId} {args : Array Value} {below : List Frame} {meth : Method} {c : Code} {D : va_G} {ad kd sd vd xd : Nat → Nat} {ca : Nat → ClassId} {A : Nat → Prop} {Q : State → Prop} (hE : o_EK E kd sd vd xd) (C : o_Cx E p s m args meth c D o_cls (o_tys ca) "SchemaJudge$LongDivision" b_Ld_reduce none 7 cc_Ld_reduce A) (hDD : ∀ (rt : Nat) (Sj : SSJ) (T0 : STx) (T1 : STx) (Rd : SRd) (Pg : SPg) (Pt : SPt) (Mk : SMk) (Lk : SLk) (Ck : SCk) (Jd : SJd) (Ld : SLd) (Pr : SPr), va_D A (o_cw ad ca rt Sj T0 T1 Rd Pg Pt Mk Lk Ck Jd Ld Pr)) (n : Nat) (u20_x1 : Int32) (u20_Sj : SSJ) (u20_T0 : STx) (u20_T1 : STx) (u20_Rd : SRd) (u20_Pg : SPg) (u20_Pt : SPt) (u20_Mk : SMk) (u20_Lk : SLk) (u20_Ck : SCk) (u20_Jd : SJd) (u20_Pr : SPr) (u20_rt : Nat) (x4 : Int32) (x5 : Int64) (y0 : Int64) (Ld : SLd) {q : Nat × Int64 × Int32 × SLd} (h : m_Ld_reduce_j58 n u20_x1 x4 x5 y0 Ld = some q) (h0 : q.1 = 0 → o_At p l e rm_Ld_reduce s m args below meth c Q o_cls D A 7 20 [] (o_cw ad ca u20_rt u20_Sj u20_T0 u20_T1 u20_Rd u20_Pg u20_Pt u20_Mk u20_Lk u20_Ck u20_Jd q.2.2.2 u20_Pr) [(0, .ref (ad 51)), (1, .int u20_x1), (2, .long q.2.1), (4, .int q.2.2.1)]) (h1 : q.1 ≠ 0 → (o_At p l e rm_Ld_reduce s m args below meth c Q o_cls D A 7 90 [] (o_cw ad ca u20_rt u20_Sj u20_T0 u20_T1 u20_Rd u20_Pg u20_Pt u20_Mk u20_Lk u20_Ck u20_Jd q.2.2.2 u20_Pr) [(0, .ref (ad 51)), (1, .int u20_x1)])) : o_At p l e rm_Ld_reduce s m args below meth c Q o_cls D A 7 58 [.long y0] (o_cw ad ca u20_rt u20_Sj u20_T0 u20_T1 u20_Rd u20_Pg u20_Pt u20_Mk u20_Lk u20_Ck u20_Jd Ld u20_Pr) [(0, .ref (ad 51)), (1, .int u20_x1), (4, .int x4), (5, .long x5)] := by
  unfold m_Ld_reduce_j58 at h
  intro H locs ls hP hS hl
  have C0 := C
  obtain ⟨hx, hb, -, -, -, hown, hts, hK, -, -⟩ := C0
  refine lv_lstore_n (lv' := [(2, .long y0), (0, .ref (ad 51)), (1, .int u20_x1), (4, .int x4), (5, .long x5)]) hx hb d_Ld_reduce_58 rfl hl (by decide) rfl (fun ls hl => ?_)
  refine lv_aload_n hx hb d_Ld_reduce_59 rfl (lv_at hl 1 rfl) ?_
  refine o_get (v := .ref (ad 53)) C in_Ld hP 51 cw_51 rfl 1 (by decide) k_2_51 rfl rfl d_Ld_reduce_60 ?_
  refine lv_iload hx hb d_Ld_reduce_63 (lv_at hl 3 rfl) ?_
  refine lv_lload hx hb d_Ld_reduce_65 (lv_at hl 4 rfl) ?_
  refine lv_lconst (v := (0:Int64)) hx hb d_Ld_reduce_67 (by decide) ?_
  refine W.lcmp hx hb d_Ld_reduce_68 ?_
  refine lv_if_ge (tgt := 81) hx hb d_Ld_reduce_69 (by decide) (fun c7 => ?_) (fun c7 => ?_)
  · replace h := o_tt c7 h
    refine lv_lload hx hb d_Ld_reduce_81 (lv_at hl 4 rfl) ?_
    obtain ⟨g8, h⟩ := o_gd_some h
    refine o_last (f := (Ld_rest Ld)) (w1 := (o_cw ad ca u20_rt u20_Sj u20_T0 u20_T1 u20_Rd u20_Pg u20_Pt u20_Mk u20_Lk u20_Ck u20_Jd (Ld_mk (Ld_divisor Ld) (vp_updL (Ld_rest Ld) x4.toNatClampNeg x5)) u20_Pr)) C hP (hDD _ _ _ _ _ _ _ _ _ _ _ _ _) hS 53 42 cw_53 rfl g8 rfl d_Ld_reduce_83 (fun H locs hP hS => ?_)
    obtain ⟨x4_84, ex4_84⟩ : ∃ y : Int32, y = x4 + (1:Int32) := ⟨_, rfl⟩
    replace h := o_nm_at ex4_84 h
    refine lv_iinc (v := x4_84) (lv' := [(4, .int x4_84), (2, .long y0), (0, .ref (ad 51)), (1, .int u20_x1), (5, .long x5)]) hx hb d_Ld_reduce_84 hl (k := 3) rfl (by rw [ex4_84]; rfl) (by decide) rfl (fun ls hl => ?_)
    refine lv_goto (tgt := 20) hx hb d_Ld_reduce_87 (by decide) ?_
    cases h
    exact h0 rfl _ _ _ hP hS (lv_sub hl [2, 3, 1, 0] rfl)
  · replace h := o_ff c7 h
    refine lv_lload hx hb d_Ld_reduce_72 (lv_at hl 4 rfl) ?_
    refine lv_ldc2 (v := (1000000000:Int64)) hx hb hown (hts _ k_6_203) d_Ld_reduce_74 ?_
    refine lv_ladd hx hb d_Ld_reduce_77 ?_
    refine lv_goto (tgt := 83) hx hb d_Ld_reduce_78 (by decide) ?_
    obtain ⟨g9, h⟩ := o_gd_some h
    refine o_last (f := (Ld_rest Ld)) (w1 := (o_cw ad ca u20_rt u20_Sj u20_T0 u20_T1 u20_Rd u20_Pg u20_Pt u20_Mk u20_Lk u20_Ck u20_Jd (Ld_mk (Ld_divisor Ld) (vp_updL (Ld_rest Ld) x4.toNatClampNeg (x5 + (1000000000:Int64)))) u20_Pr)) C hP (hDD _ _ _ _ _ _ _ _ _ _ _ _ _) hS 53 42 cw_53 rfl g9 rfl d_Ld_reduce_83 (fun H locs hP hS => ?_)
    obtain ⟨x4_84, ex4_84⟩ : ∃ y : Int32, y = x4 + (1:Int32) := ⟨_, rfl⟩
    replace h := o_nm_at ex4_84 h
    refine lv_iinc (v := x4_84) (lv' := [(4, .int x4_84), (2, .long y0), (0, .ref (ad 51)), (1, .int u20_x1), (5, .long x5)]) hx hb d_Ld_reduce_84 hl (k := 3) rfl (by rw [ex4_84]; rfl) (by decide) rfl (fun ls hl => ?_)
    refine lv_goto (tgt := 20) hx hb d_Ld_reduce_87 (by decide) ?_
    cases h
    exact h0 rfl _ _ _ hP hS (lv_sub hl [2, 3, 1, 0] rfl)
set_option maxHeartbeats 4000000 in
set_option maxRecDepth 100000 in
theorem w_Ld_reduce_b20 {E : (Nat → Prop) → State → Heap → Prop} {p : Program} {l : Launch} {e : Env} {s : State} {m : MethodId} {args : Array Value} {below : List Frame} {meth : Method} {c : Code} {D : va_G} {ad kd sd vd xd : Nat → Nat} {ca : Nat → ClassId} {A : Nat → Prop} {Q : State → Prop} (hE : o_EK E kd sd vd xd) (C : o_Cx E p s m args meth c D o_cls (o_tys ca) "SchemaJudge$LongDivision" b_Ld_reduce none 7 cc_Ld_reduce A) (hDD : ∀ (rt : Nat) (Sj : SSJ) (T0 : STx) (T1 : STx) (Rd : SRd) (Pg : SPg) (Pt : SPt) (Mk : SMk) (Lk : SLk) (Ck : SCk) (Jd : SJd) (Ld : SLd) (Pr : SPr), va_D A (o_cw ad ca rt Sj T0 T1 Rd Pg Pt Mk Lk Ck Jd Ld Pr)) (n : Nat) (u20_x1 : Int32) (u20_Sj : SSJ) (u20_T0 : STx) (u20_T1 : STx) (u20_Rd : SRd) (u20_Pg : SPg) (u20_Pt : SPt) (u20_Mk : SMk) (u20_Lk : SLk) (u20_Ck : SCk) (u20_Jd : SJd) (u20_Pr : SPr) (u20_rt : Nat) (z : Int64 × Int32 × SLd) (q : Nat × Int64 × Int32 × SLd) (h : m_Ld_reduce_b20 n u20_x1 z = some q) (h0 : q.1 = 0 → o_At p l e rm_Ld_reduce s m args below meth c Q o_cls D A 7 20 [] (o_cw ad ca u20_rt u20_Sj u20_T0 u20_T1 u20_Rd u20_Pg u20_Pt u20_Mk u20_Lk u20_Ck u20_Jd q.2.2.2 u20_Pr) [(0, .ref (ad 51)), (1, .int u20_x1), (2, .long q.2.1), (4, .int q.2.2.1)]) (h1 : q.1 ≠ 0 → (o_At p l e rm_Ld_reduce s m args below meth c Q o_cls D A 7 90 [] (o_cw ad ca u20_rt u20_Sj u20_T0 u20_T1 u20_Rd u20_Pg u20_Pt u20_Mk u20_Lk u20_Ck u20_Jd q.2.2.2 u20_Pr) [(0, .ref (ad 51)), (1, .int u20_x1)])) : o_At p l e rm_Ld_reduce s m args below meth c Q o_cls D A 7 20 [] (o_cw ad ca u20_rt u20_Sj u20_T0 u20_T1 u20_Rd u20_Pg u20_Pt u20_Mk u20_Lk u20_Ck u20_Jd z.2.2 u20_Pr) [(0, .ref (ad 51)), (1, .int u20_x1), (2, .long z.1), (4, .int z.2.1)] := by
  unfold m_Ld_reduce_b20 at h
  intro H locs ls hP hS hl
  have C0 := C
  obtain ⟨hx, hb, -, -, -, hown, hts, hK, -, -⟩ := C0
  refine lv_iload hx hb d_Ld_reduce_20 (lv_at hl 3 rfl) ?_
  refine lv_bipush (v := (7:Int32)) hx hb d_Ld_reduce_22 (by decide) ?_
  refine lv_icmp_ge (tgt := 90) hx hb d_Ld_reduce_24 (by decide) (fun c3 => ?_) (fun c3 => ?_)
  · replace h := o_tt c3 h
    cases h
    exact h1 (Nat.succ_ne_zero 0) _ _ _ hP hS (lv_sub hl [0, 1] rfl)
  · replace h := o_ff c3 h
    refine lv_aload_n hx hb d_Ld_reduce_27 rfl (lv_at hl 0 rfl) ?_
    refine o_get (v := .ref (ad 53)) C in_Ld hP 51 cw_51 rfl 1 (by decide) k_2_51 rfl rfl d_Ld_reduce_28 ?_
    refine lv_iload hx hb d_Ld_reduce_31 (lv_at hl 3 rfl) ?_
    obtain ⟨g4, h⟩ := o_gd_some h
    refine o_lald (f := (Ld_rest z.2.2)) C hP 53 42 cw_53 rfl g4 d_Ld_reduce_33 ?_
    refine lv_aload_n hx hb d_Ld_reduce_34 rfl (lv_at hl 0 rfl) ?_
    refine o_get (v := .ref (ad 52)) C in_Ld hP 51 cw_51 rfl 0 (by decide) k_2_50 rfl rfl d_Ld_reduce_35 ?_
    refine lv_iload hx hb d_Ld_reduce_38 (lv_at hl 3 rfl) ?_
    obtain ⟨g5, h⟩ := o_gd_some h
    refine o_lald (f := (Ld_divisor z.2.2)) C hP 52 41 cw_52 rfl g5 d_Ld_reduce_40 ?_
    refine lv_lsub hx hb d_Ld_reduce_41 ?_
    refine lv_lload_n hx hb d_Ld_reduce_42 rfl (lv_at hl 2 rfl) ?_
    refine lv_lsub hx hb d_Ld_reduce_43 ?_
    refine lv_topl (fun x5_44 ex5_44 => ?_)
    replace h := o_nm_at ex5_44 h
    refine lv_lstore (lv' := [(5, .long x5_44), (0, .ref (ad 51)), (1, .int u20_x1), (2, .long z.1), (4, .int z.2.1)]) hx hb d_Ld_reduce_44 hl (by decide) rfl (fun ls hl => ?_)
    refine lv_lload hx hb d_Ld_reduce_46 (lv_at hl 0 rfl) ?_
    refine lv_lconst (v := (0:Int64)) hx hb d_Ld_reduce_48 (by decide) ?_
    refine W.lcmp hx hb d_Ld_reduce_49 ?_
    refine lv_if_ge (tgt := 57) hx hb d_Ld_reduce_50 (by decide) (fun c6 => ?_) (fun c6 => ?_)
    · replace h := o_tt c6 h
      refine lv_lconst (v := (0:Int64)) hx hb d_Ld_reduce_57 (by decide) ?_
      exact w_Ld_reduce_j58 hE C hDD n u20_x1 u20_Sj u20_T0 u20_T1 u20_Rd u20_Pg u20_Pt u20_Mk u20_Lk u20_Ck u20_Jd u20_Pr u20_rt z.2.1 x5_44 (0:Int64) z.2.2 h h0 h1 _ _ _ hP hS (lv_sub hl [1, 2, 4, 0] rfl)
    · replace h := o_ff c6 h
      refine lv_lconst (v := (1:Int64)) hx hb d_Ld_reduce_53 (by decide) ?_
      refine lv_goto (tgt := 58) hx hb d_Ld_reduce_54 (by decide) ?_
      exact w_Ld_reduce_j58 hE C hDD n u20_x1 u20_Sj u20_T0 u20_T1 u20_Rd u20_Pg u20_Pt u20_Mk u20_Lk u20_Ck u20_Jd u20_Pr u20_rt z.2.1 x5_44 (1:Int64) z.2.2 h h0 h1 _ _ _ hP hS (lv_sub hl [1, 2, 4, 0] rfl)
set_option maxHeartbeats 4000000 in
set_option maxRecDepth 100000 in
theorem w_Ld_reduce_b2 {E : (Nat → Prop) → State → Heap → Prop} {p : Program} {l : Launch} {e : Env} {s : State} {m : MethodId} {args : Array Value} {below : List Frame} {meth : Method} {c : Code} {D : va_G} {ad kd sd vd xd : Nat → Nat} {ca : Nat → ClassId} {A : Nat → Prop} {Q : State → Prop} (hE : o_EK E kd sd vd xd) (C : o_Cx E p s m args meth c D o_cls (o_tys ca) "SchemaJudge$LongDivision" b_Ld_reduce none 7 cc_Ld_reduce A) (hDD : ∀ (rt : Nat) (Sj : SSJ) (T0 : STx) (T1 : STx) (Rd : SRd) (Pg : SPg) (Pt : SPt) (Mk : SMk) (Lk : SLk) (Ck : SCk) (Jd : SJd) (Ld : SLd) (Pr : SPr), va_D A (o_cw ad ca rt Sj T0 T1 Rd Pg Pt Mk Lk Ck Jd Ld Pr)) (n : Nat) (u2_Sj : SSJ) (u2_T0 : STx) (u2_T1 : STx) (u2_Rd : SRd) (u2_Pg : SPg) (u2_Pt : SPt) (u2_Mk : SMk) (u2_Lk : SLk) (u2_Ck : SCk) (u2_Jd : SJd) (u2_Pr : SPr) (u2_rt : Nat) (z : Int32 × SLd) (q : Nat × Int32 × SLd) (h : m_Ld_reduce_b2 n z = some q) (h0 : q.1 = 0 → o_At p l e rm_Ld_reduce s m args below meth c Q o_cls D A 7 2 [] (o_cw ad ca u2_rt u2_Sj u2_T0 u2_T1 u2_Rd u2_Pg u2_Pt u2_Mk u2_Lk u2_Ck u2_Jd q.2.2 u2_Pr) [(0, .ref (ad 51)), (1, .int q.2.1)]) (h1 : q.1 ≠ 0 → (o_At p l e rm_Ld_reduce s m args below meth c Q o_cls D A 7 96 [] (o_cw ad ca u2_rt u2_Sj u2_T0 u2_T1 u2_Rd u2_Pg u2_Pt u2_Mk u2_Lk u2_Ck u2_Jd q.2.2 u2_Pr) [])) : o_At p l e rm_Ld_reduce s m args below meth c Q o_cls D A 7 2 [] (o_cw ad ca u2_rt u2_Sj u2_T0 u2_T1 u2_Rd u2_Pg u2_Pt u2_Mk u2_Lk u2_Ck u2_Jd z.2 u2_Pr) [(0, .ref (ad 51)), (1, .int z.1)] := by
  unfold m_Ld_reduce_b2 at h
  intro H locs ls hP hS hl
  have C0 := C
  obtain ⟨hx, hb, -, -, -, hown, hts, hK, -, -⟩ := C0
  refine lv_iload_n hx hb d_Ld_reduce_2 rfl (lv_at hl 1 rfl) ?_
  refine lv_bipush (v := (10:Int32)) hx hb d_Ld_reduce_3 (by decide) ?_
  refine lv_icmp_ge (tgt := 96) hx hb d_Ld_reduce_5 (by decide) (fun c1 => ?_) (fun c1 => ?_)
  · replace h := o_tt c1 h
    cases h
    exact h1 (Nat.succ_ne_zero 0) _ _ _ hP hS (lv_sub hl [] rfl)
  · replace h := o_ff c1 h
    refine lv_aload_n hx hb d_Ld_reduce_8 rfl (lv_at hl 0 rfl) ?_
    obtain ⟨q1, hq1, h⟩ := o_bd_some h
    refine o_V (st1 := [.int q1]) (w1 := (o_cw ad ca u2_rt u2_Sj u2_T0 u2_T1 u2_Rd u2_Pg u2_Pt u2_Mk u2_Lk u2_Ck u2_Jd z.2 u2_Pr)) hE.1 C (c_Ld_restReaches hE l n z.2 u2_Sj u2_T0 u2_T1 u2_Rd u2_Pg u2_Pt u2_Mk u2_Lk u2_Ck u2_Jd u2_Pr u2_rt hq1) hP (hDD _ _ _ _ _ _ _ _ _ _ _ _ _) hS hl.1 rfl cw_51 k_6_209 k_6_211 k_s_76 k_1_10 k_6_212 hv_Ld_restReaches rfl rfl ⟨(Nat.le_of_ble_eq_true rfl), (Nat.le_of_ble_eq_true rfl)⟩ rfl (Nat.le_of_ble_eq_true rfl) ⟨Nat.zero_le _, Nat.zero_le _⟩ rfl d_Ld_reduce_9 (fun H locs hP hS => ?_)
    refine lv_if_eq (tgt := 96) hx hb d_Ld_reduce_12 (by decide) (fun c2 => ?_) (fun c2 => ?_)
    · replace h := o_tt c2 h
      cases h
      exact h1 (Nat.succ_ne_zero 0) _ _ _ hP hS (lv_sub hl [] rfl)
    · replace h := o_ff c2 h
      refine lv_lconst (v := (0:Int64)) hx hb d_Ld_reduce_15 (by decide) ?_
      refine lv_lstore_n (lv' := [(2, .long (0:Int64)), (0, .ref (ad 51)), (1, .int z.1)]) hx hb d_Ld_reduce_16 rfl hl (by decide) rfl (fun ls hl => ?_)
      refine lv_iconst (v := (0:Int32)) hx hb d_Ld_reduce_17 (by decide) ?_
      refine lv_istore (lv' := [(4, .int (0:Int32)), (2, .long (0:Int64)), (0, .ref (ad 51)), (1, .int z.1)]) hx hb d_Ld_reduce_18 hl (by decide) rfl (fun ls hl => ?_)
      obtain ⟨q2, hq2, h⟩ := o_bd_some h
      refine o_sim2 (AH := fun zz => o_At p l e rm_Ld_reduce s m args below meth c _ o_cls D A 7 20 [] (o_cw ad ca u2_rt u2_Sj u2_T0 u2_T1 u2_Rd u2_Pg u2_Pt u2_Mk u2_Lk u2_Ck u2_Jd zz.2.2 u2_Pr) [(0, .ref (ad 51)), (1, .int z.1), (2, .long zz.1), (4, .int zz.2.1)]) (AX := fun qq => o_At p l e rm_Ld_reduce s m args below meth c _ o_cls D A 7 90 [] (o_cw ad ca u2_rt u2_Sj u2_T0 u2_T1 u2_Rd u2_Pg u2_Pt u2_Mk u2_Lk u2_Ck u2_Jd qq.2.2.2 u2_Pr) [(0, .ref (ad 51)), (1, .int z.1)]) (fun zz qq h h0 h1 => w_Ld_reduce_b20 hE C hDD n z.1 u2_Sj u2_T0 u2_T1 u2_Rd u2_Pg u2_Pt u2_Mk u2_Lk u2_Ck u2_Jd u2_Pr u2_rt zz qq h h0 h1) n _ q2 hq2 ?_ _ _ _ hP hS (lv_sub hl [2, 3, 1, 0] rfl)
      intro H locs ls hP hS hl
      obtain ⟨x1_90, ex1_90⟩ : ∃ y : Int32, y = z.1 + (1:Int32) := ⟨_, rfl⟩
      replace h := o_nm_at ex1_90 h
      refine lv_iinc (v := x1_90) (lv' := [(1, .int x1_90), (0, .ref (ad 51))]) hx hb d_Ld_reduce_90 hl (k := 1) rfl (by rw [ex1_90]; rfl) (by decide) rfl (fun ls hl => ?_)
      refine lv_goto (tgt := 2) hx hb d_Ld_reduce_93 (by decide) ?_
      cases h
      exact h0 rfl _ _ _ hP hS (lv_sub hl [1, 0] rfl)
set_option maxHeartbeats 4000000 in
set_option maxRecDepth 100000 in
theorem c_Ld_reduce {E : (Nat → Prop) → State → Heap → Prop} {D : va_G} {ad kd sd vd xd : Nat → Nat} {ca : Nat → ClassId} (hE : o_EK E kd sd vd xd) (l : Launch) (n : Nat)  (Ld : SLd) (Sj : SSJ) (T0 : STx) (T1 : STx) (Rd : SRd) (Pg : SPg) (Pt : SPt) (Mk : SMk) (Lk : SLk) (Ck : SCk) (Jd : SJd) (Pr : SPr) (rt : Nat) {r : SLd} (h : m_Ld_reduce n Ld = some r) : o_Cn E l D o_cls (o_tys ca) y_Ld_reduce cc_Ld_reduce rm_Ld_reduce [.ref (ad 51)] (o_cw ad ca rt Sj T0 T1 Rd Pg Pt Mk Lk Ck Jd Ld Pr) (o_cw ad ca rt Sj T0 T1 Rd Pg Pt Mk Lk Ck Jd r Pr) none := by
  refine o_Cn_of (by decide) (Nat.le_of_ble_eq_true rfl) ?_
  intro p e s m below meth c A ls C hD hP hS hl
  have hDD : ∀ (rt : Nat) (Sj : SSJ) (T0 : STx) (T1 : STx) (Rd : SRd) (Pg : SPg) (Pt : SPt) (Mk : SMk) (Lk : SLk) (Ck : SCk) (Jd : SJd) (Ld : SLd) (Pr : SPr), va_D A (o_cw ad ca rt Sj T0 T1 Rd Pg Pt Mk Lk Ck Jd Ld Pr) := fun _ _ _ _ _ _ _ _ _ _ _ _ _ => o_D_map hD rfl
  have hl : lv_has ls 7 [(0, .ref (ad 51))] := hl
  unfold m_Ld_reduce at h
  have C0 := C
  obtain ⟨hx, hb, -, -, -, hown, hts, hK, -, -⟩ := C0
  refine lv_iconst (v := (0:Int32)) hx hb d_Ld_reduce_0 (by decide) ?_
  refine lv_istore_n (lv' := [(1, .int (0:Int32)), (0, .ref (ad 51))]) hx hb d_Ld_reduce_1 rfl hl (by decide) rfl (fun ls hl => ?_)
  obtain ⟨q3, hq3, h⟩ := o_bd_some h
  refine o_sim2 (AH := fun zz => o_At p l e rm_Ld_reduce s m _ below meth c _ o_cls D A 7 2 [] (o_cw ad ca rt Sj T0 T1 Rd Pg Pt Mk Lk Ck Jd zz.2 Pr) [(0, .ref (ad 51)), (1, .int zz.1)]) (AX := fun qq => o_At p l e rm_Ld_reduce s m _ below meth c _ o_cls D A 7 96 [] (o_cw ad ca rt Sj T0 T1 Rd Pg Pt Mk Lk Ck Jd qq.2.2 Pr) []) (fun zz qq h h0 h1 => w_Ld_reduce_b2 hE C hDD n Sj T0 T1 Rd Pg Pt Mk Lk Ck Jd Pr rt zz qq h h0 h1) n _ q3 hq3 ?_ _ _ _ hP hS (lv_sub hl [1, 0] rfl)
  intro H locs ls hP hS hl
  cases h
  exact o_rv C hP hS d_Ld_reduce_96
set_option maxHeartbeats 4000000 in
set_option maxRecDepth 100000 in
theorem w_Ld_isZero_b2 {E : (Nat → Prop) → State → Heap → Prop} {p : Program} {l : Launch} {e : Env} {s : State} {m : MethodId} {args : Array Value} {below : List Frame} {meth : Method} {c : Code} {D : va_G} {ad kd sd vd xd : Nat → Nat} {ca : Nat → ClassId} {A : Nat → Prop} {Q : State → Prop} (hE : o_EK E kd sd vd xd) (C : o_Cx E p s m args meth c D o_cls (o_tys ca) "SchemaJudge$LongDivision" b_Ld_isZero (some .boolean) 2 cc_Ld_isZero A) (hDD : ∀ (rt : Nat) (Sj : SSJ) (T0 : STx) (T1 : STx) (Rd : SRd) (Pg : SPg) (Pt : SPt) (Mk : SMk) (Lk : SLk) (Ck : SCk) (Jd : SJd) (Ld : SLd) (Pr : SPr), va_D A (o_cw ad ca rt Sj T0 T1 Rd Pg Pt Mk Lk Ck Jd Ld Pr)) (n : Nat) (u2_Ld : SLd) (u2_Sj : SSJ) (u2_T0 : STx) (u2_T1 : STx) (u2_Rd : SRd) (u2_Pg : SPg) (u2_Pt : SPt) (u2_Mk : SMk) (u2_Lk : SLk) (u2_Ck : SCk) (u2_Jd : SJd) (u2_Pr : SPr) (u2_rt : Nat) (z : Int32) (q : Nat × Int32) (h : m_Ld_isZero_b2 n u2_Ld z = some q) (h0 : q.1 = 0 → o_At p l e rm_Ld_isZero s m args below meth c Q o_cls D A 2 2 [] (o_cw ad ca u2_rt u2_Sj u2_T0 u2_T1 u2_Rd u2_Pg u2_Pt u2_Mk u2_Lk u2_Ck u2_Jd u2_Ld u2_Pr) [(0, .ref (ad 51)), (1, .int q.2)]) (h1 : q.1 ≠ 0 → (if q.1 = 1 then o_At p l e rm_Ld_isZero s m args below meth c Q o_cls D A 2 19 [] (o_cw ad ca u2_rt u2_Sj u2_T0 u2_T1 u2_Rd u2_Pg u2_Pt u2_Mk u2_Lk u2_Ck u2_Jd u2_Ld u2_Pr) [] else o_At p l e rm_Ld_isZero s m args below meth c Q o_cls D A 2 27 [] (o_cw ad ca u2_rt u2_Sj u2_T0 u2_T1 u2_Rd u2_Pg u2_Pt u2_Mk u2_Lk u2_Ck u2_Jd u2_Ld u2_Pr) [])) : o_At p l e rm_Ld_isZero s m args below meth c Q o_cls D A 2 2 [] (o_cw ad ca u2_rt u2_Sj u2_T0 u2_T1 u2_Rd u2_Pg u2_Pt u2_Mk u2_Lk u2_Ck u2_Jd u2_Ld u2_Pr) [(0, .ref (ad 51)), (1, .int z)] := by
  unfold m_Ld_isZero_b2 at h
  intro H locs ls hP hS hl
  have C0 := C
  obtain ⟨hx, hb, -, -, -, hown, hts, hK, -, -⟩ := C0
  refine lv_iload_n hx hb d_Ld_isZero_2 rfl (lv_at hl 1 rfl) ?_
  refine lv_bipush (v := (7:Int32)) hx hb d_Ld_isZero_3 (by decide) ?_
  refine lv_icmp_ge (tgt := 27) hx hb d_Ld_isZero_5 (by decide) (fun c1 => ?_) (fun c1 => ?_)
  · replace h := o_tt c1 h
    cases h
    exact h1 (Nat.succ_ne_zero 1) _ _ _ hP hS (lv_sub hl [] rfl)
  · replace h := o_ff c1 h
    refine lv_aload_n hx hb d_Ld_isZero_8 rfl (lv_at hl 0 rfl) ?_
    refine o_get (v := .ref (ad 53)) C in_Ld hP 51 cw_51 rfl 1 (by decide) k_2_51 rfl rfl d_Ld_isZero_9 ?_
    refine lv_iload_n hx hb d_Ld_isZero_12 rfl (lv_at hl 1 rfl) ?_
    obtain ⟨g2, h⟩ := o_gd_some h
    refine o_lald (f := (Ld_rest u2_Ld)) C hP 53 42 cw_53 rfl g2 d_Ld_isZero_13 ?_
    refine lv_lconst (v := (0:Int64)) hx hb d_Ld_isZero_14 (by decide) ?_
    refine W.lcmp hx hb d_Ld_isZero_15 ?_
    refine lv_if_eq (tgt := 21) hx hb d_Ld_isZero_16 (by decide) (fun c3 => ?_) (fun c3 => ?_)
    · replace h := o_tt c3 h
      obtain ⟨x1_21, ex1_21⟩ : ∃ y : Int32, y = z + (1:Int32) := ⟨_, rfl⟩
      replace h := o_nm_at ex1_21 h
      refine lv_iinc (v := x1_21) (lv' := [(1, .int x1_21), (0, .ref (ad 51))]) hx hb d_Ld_isZero_21 hl (k := 1) rfl (by rw [ex1_21]; rfl) (by decide) rfl (fun ls hl => ?_)
      refine lv_goto (tgt := 2) hx hb d_Ld_isZero_24 (by decide) ?_
      cases h
      exact h0 rfl _ _ _ hP hS (lv_sub hl [1, 0] rfl)
    · replace h := o_ff c3 h
      cases h
      exact h1 (Nat.succ_ne_zero 0) _ _ _ hP hS (lv_sub hl [] rfl)
set_option maxHeartbeats 4000000 in
set_option maxRecDepth 100000 in
theorem c_Ld_isZero {E : (Nat → Prop) → State → Heap → Prop} {D : va_G} {ad kd sd vd xd : Nat → Nat} {ca : Nat → ClassId} (hE : o_EK E kd sd vd xd) (l : Launch) (n : Nat)  (Ld : SLd) (Sj : SSJ) (T0 : STx) (T1 : STx) (Rd : SRd) (Pg : SPg) (Pt : SPt) (Mk : SMk) (Lk : SLk) (Ck : SCk) (Jd : SJd) (Pr : SPr) (rt : Nat) {r : Int32} (h : m_Ld_isZero n Ld = some r) : o_Cn E l D o_cls (o_tys ca) y_Ld_isZero cc_Ld_isZero rm_Ld_isZero [.ref (ad 51)] (o_cw ad ca rt Sj T0 T1 Rd Pg Pt Mk Lk Ck Jd Ld Pr) (o_cw ad ca rt Sj T0 T1 Rd Pg Pt Mk Lk Ck Jd Ld Pr) (some (.int r)) := by
  refine o_Cn_of (by decide) (Nat.le_of_ble_eq_true rfl) ?_
  intro p e s m below meth c A ls C hD hP hS hl
  have hDD : ∀ (rt : Nat) (Sj : SSJ) (T0 : STx) (T1 : STx) (Rd : SRd) (Pg : SPg) (Pt : SPt) (Mk : SMk) (Lk : SLk) (Ck : SCk) (Jd : SJd) (Ld : SLd) (Pr : SPr), va_D A (o_cw ad ca rt Sj T0 T1 Rd Pg Pt Mk Lk Ck Jd Ld Pr) := fun _ _ _ _ _ _ _ _ _ _ _ _ _ => o_D_map hD rfl
  have hl : lv_has ls 2 [(0, .ref (ad 51))] := hl
  unfold m_Ld_isZero at h
  have C0 := C
  obtain ⟨hx, hb, -, -, -, hown, hts, hK, -, -⟩ := C0
  refine lv_iconst (v := (0:Int32)) hx hb d_Ld_isZero_0 (by decide) ?_
  refine lv_istore_n (lv' := [(1, .int (0:Int32)), (0, .ref (ad 51))]) hx hb d_Ld_isZero_1 rfl hl (by decide) rfl (fun ls hl => ?_)
  obtain ⟨q1, hq1, h⟩ := o_bd_some h
  refine o_sim2 (AH := fun zz => o_At p l e rm_Ld_isZero s m _ below meth c _ o_cls D A 2 2 [] (o_cw ad ca rt Sj T0 T1 Rd Pg Pt Mk Lk Ck Jd Ld Pr) [(0, .ref (ad 51)), (1, .int zz)]) (AX := fun qq => if qq.1 = 1 then o_At p l e rm_Ld_isZero s m _ below meth c _ o_cls D A 2 19 [] (o_cw ad ca rt Sj T0 T1 Rd Pg Pt Mk Lk Ck Jd Ld Pr) [] else o_At p l e rm_Ld_isZero s m _ below meth c _ o_cls D A 2 27 [] (o_cw ad ca rt Sj T0 T1 Rd Pg Pt Mk Lk Ck Jd Ld Pr) []) (fun zz qq h h0 h1 => w_Ld_isZero_b2 hE C hDD n Ld Sj T0 T1 Rd Pg Pt Mk Lk Ck Jd Pr rt zz qq h h0 h1) n _ q1 hq1 ?_ _ _ _ hP hS (lv_sub hl [1, 0] rfl)
  by_cases c4 : q1.1 = 1
  · replace h := o_tt c4 h
    refine o_ip c4 ?_
    intro H locs ls hP hS hl
    refine lv_iconst (v := (0:Int32)) hx hb d_Ld_isZero_19 (by decide) ?_
    cases h
    exact o_rz (v := (0:Int32)) C o_nar0 hP hS d_Ld_isZero_20
  replace h := o_ff c4 h
  refine o_in_ c4 ?_
  intro H locs ls hP hS hl
  refine lv_iconst (v := (1:Int32)) hx hb d_Ld_isZero_27 (by decide) ?_
  cases h
  exact o_rz (v := (1:Int32)) C o_nar1 hP hS d_Ld_isZero_28
set_option maxHeartbeats 4000000 in
set_option maxRecDepth 100000 in
theorem w_Tx_sameString_b102_11 {E : (Nat → Prop) → State → Heap → Prop} {p : Program} {l : Launch} {e : Env} {s : State} {m : MethodId} {args : Array Value} {below : List Frame} {meth : Method} {c : Code} {D : va_G} {ad kd sd vd xd : Nat → Nat} {ca : Nat → ClassId} {A : Nat → Prop} {Q : State → Prop} (hE : o_EK E kd sd vd xd) (C : o_Cx E p s m args meth c D o_cls (o_tys ca) "SchemaJudge$Text" b_Tx_sameString (some .boolean) 8 cc_Tx_sameString A) (hDD : ∀ (rt : Nat) (Sj : SSJ) (T0 : STx) (T1 : STx) (Rd : SRd) (Pg : SPg) (Pt : SPt) (Mk : SMk) (Lk : SLk) (Ck : SCk) (Jd : SJd) (Ld : SLd) (Pr : SPr), va_D A (o_cw ad ca rt Sj T0 T1 Rd Pg Pt Mk Lk Ck Jd Ld Pr)) (n : Nat) (u102_x4 : Int32) (u102_x5 : Int32) (u102_x6 : Int32) (u102_a0 : STx) (u102_Sj : SSJ) (u102_T0 : STx) (u102_Rd : SRd) (u102_Pg : SPg) (u102_Pt : SPt) (u102_Mk : SMk) (u102_Lk : SLk) (u102_Ck : SCk) (u102_Jd : SJd) (u102_Ld : SLd) (u102_Pr : SPr) (u102_rt : Nat) (z : Int32) (q : Nat × Int32) (h : m_Tx_sameString_b102 n u102_x4 u102_x5 u102_x6 u102_a0 u102_a0 z = some q) (h0 : q.1 = 0 → o_At p l e rm_Tx_sameString s m args below meth c Q o_cls D A 8 102 [] (o_cw ad ca u102_rt u102_Sj u102_T0 u102_a0 u102_Rd u102_Pg u102_Pt u102_Mk u102_Lk u102_Ck u102_Jd u102_Ld u102_Pr) [(0, .ref (ad 12)), (2, .ref (ad 12)), (4, .int u102_x4), (5, .int u102_x5), (6, .int u102_x6), (7, .int q.2)]) (h1 : q.1 ≠ 0 → (if q.1 = 1 then o_At p l e rm_Tx_sameString s m args below meth c Q o_cls D A 8 132 [] (o_cw ad ca u102_rt u102_Sj u102_T0 u102_a0 u102_Rd u102_Pg u102_Pt u102_Mk u102_Lk u102_Ck u102_Jd u102_Ld u102_Pr) [] else o_At p l e rm_Tx_sameString s m args below meth c Q o_cls D A 8 140 [] (o_cw ad ca u102_rt u102_Sj u102_T0 u102_a0 u102_Rd u102_Pg u102_Pt u102_Mk u102_Lk u102_Ck u102_Jd u102_Ld u102_Pr) [])) : o_At p l e rm_Tx_sameString s m args below meth c Q o_cls D A 8 102 [] (o_cw ad ca u102_rt u102_Sj u102_T0 u102_a0 u102_Rd u102_Pg u102_Pt u102_Mk u102_Lk u102_Ck u102_Jd u102_Ld u102_Pr) [(0, .ref (ad 12)), (2, .ref (ad 12)), (4, .int u102_x4), (5, .int u102_x5), (6, .int u102_x6), (7, .int z)] := by
  unfold m_Tx_sameString_b102 at h
  intro H locs ls hP hS hl
  have C0 := C
  obtain ⟨hx, hb, -, -, -, hown, hts, hK, -, -⟩ := C0
  refine lv_iload hx hb d_Tx_sameString_102 (lv_at hl 5 rfl) ?_
  refine lv_iload hx hb d_Tx_sameString_104 (lv_at hl 4 rfl) ?_
  refine lv_icmp_ge (tgt := 140) hx hb d_Tx_sameString_106 (by decide) (fun c15 => ?_) (fun c15 => ?_)
  · replace h := o_tt c15 h
    cases h
    exact h1 (Nat.succ_ne_zero 1) _ _ _ hP hS (lv_sub hl [] rfl)
  · replace h := o_ff c15 h
    refine lv_aload_n hx hb d_Tx_sameString_109 rfl (lv_at hl 0 rfl) ?_
    refine o_get (v := .ref (ad 22)) C in_Tx hP 12 cw_12 rfl 9 (by decide) k_1_55 rfl rfl d_Tx_sameString_110 ?_
    refine lv_iload hx hb d_Tx_sameString_113 (lv_at hl 2 rfl) ?_
    refine lv_iload hx hb d_Tx_sameString_115 (lv_at hl 5 rfl) ?_
    refine lv_iadd hx hb d_Tx_sameString_117 ?_
    obtain ⟨g16, h⟩ := o_gd_some h
    refine o_iald (f := (Tx_cells u102_a0)) C hP 22 19 cw_22 rfl g16 d_Tx_sameString_118 ?_
    refine lv_aload_n hx hb d_Tx_sameString_119 rfl (lv_at hl 1 rfl) ?_
    refine o_get (v := .ref (ad 22)) C in_Tx hP 12 cw_12 rfl 9 (by decide) k_1_55 rfl rfl d_Tx_sameString_120 ?_
    refine lv_iload hx hb d_Tx_sameString_123 (lv_at hl 3 rfl) ?_
    refine lv_iload hx hb d_Tx_sameString_125 (lv_at hl 5 rfl) ?_
    refine lv_iadd hx hb d_Tx_sameString_127 ?_
    obtain ⟨g17, h⟩ := o_gd_some h
    refine o_iald (f := (Tx_cells u102_a0)) C hP 22 19 cw_22 rfl g17 d_Tx_sameString_128 ?_
    refine lv_icmp_eq (tgt := 134) hx hb d_Tx_sameString_129 (by decide) (fun c18 => ?_) (fun c18 => ?_)
    · replace h := o_tt c18 h
      obtain ⟨x7_134, ex7_134⟩ : ∃ y : Int32, y = z + (1:Int32) := ⟨_, rfl⟩
      replace h := o_nm_at ex7_134 h
      refine lv_iinc (v := x7_134) (lv' := [(7, .int x7_134), (0, .ref (ad 12)), (2, .ref (ad 12)), (4, .int u102_x4), (5, .int u102_x5), (6, .int u102_x6)]) hx hb d_Tx_sameString_134 hl (k := 5) rfl (by rw [ex7_134]; rfl) (by decide) rfl (fun ls hl => ?_)
      refine lv_goto (tgt := 102) hx hb d_Tx_sameString_137 (by decide) ?_
      cases h
      exact h0 rfl _ _ _ hP hS (lv_sub hl [1, 2, 3, 4, 5, 0] rfl)
    · replace h := o_ff c18 h
      cases h
      exact h1 (Nat.succ_ne_zero 0) _ _ _ hP hS (lv_sub hl [] rfl)
set_option maxHeartbeats 4000000 in
set_option maxRecDepth 100000 in
theorem c_Tx_sameString_11 {E : (Nat → Prop) → State → Heap → Prop} {D : va_G} {ad kd sd vd xd : Nat → Nat} {ca : Nat → ClassId} (hE : o_EK E kd sd vd xd) (l : Launch) (n : Nat) (x1 : Int32) (x3 : Int32) (a0 : STx) (Sj : SSJ) (T0 : STx) (Rd : SRd) (Pg : SPg) (Pt : SPt) (Mk : SMk) (Lk : SLk) (Ck : SCk) (Jd : SJd) (Ld : SLd) (Pr : SPr) (rt : Nat) {r : Int32} (h : m_Tx_sameString n x1 x3 a0 a0 = some r) : o_Cn E l D o_cls (o_tys ca) y_Tx_sameString cc_Tx_sameString rm_Tx_sameString [.ref (ad 12), .int x1, .ref (ad 12), .int x3] (o_cw ad ca rt Sj T0 a0 Rd Pg Pt Mk Lk Ck Jd Ld Pr) (o_cw ad ca rt Sj T0 a0 Rd Pg Pt Mk Lk Ck Jd Ld Pr) (some (.int r)) := by
  refine o_Cn_of (by decide) (Nat.le_of_ble_eq_true rfl) ?_
  intro p e s m below meth c A ls C hD hP hS hl
  have hDD : ∀ (rt : Nat) (Sj : SSJ) (T0 : STx) (T1 : STx) (Rd : SRd) (Pg : SPg) (Pt : SPt) (Mk : SMk) (Lk : SLk) (Ck : SCk) (Jd : SJd) (Ld : SLd) (Pr : SPr), va_D A (o_cw ad ca rt Sj T0 T1 Rd Pg Pt Mk Lk Ck Jd Ld Pr) := fun _ _ _ _ _ _ _ _ _ _ _ _ _ => o_D_map hD rfl
  have hl : lv_has ls 8 [(0, .ref (ad 12)), (1, .int x1), (2, .ref (ad 12)), (3, .int x3)] := hl
  unfold m_Tx_sameString at h
  have C0 := C
  obtain ⟨hx, hb, -, -, -, hown, hts, hK, -, -⟩ := C0
  refine lv_iload_n hx hb d_Tx_sameString_0 rfl (lv_at hl 1 rfl) ?_
  refine lv_if_lt (tgt := 39) hx hb d_Tx_sameString_1 (by decide) (fun c1 => ?_) (fun c1 => ?_)
  · replace h := o_tt c1 h
    refine lv_iconst (v := (0:Int32)) hx hb d_Tx_sameString_39 (by decide) ?_
    cases h
    exact o_rz (v := (0:Int32)) C o_nar0 hP hS d_Tx_sameString_40
  · replace h := o_ff c1 h
    refine lv_iload_n hx hb d_Tx_sameString_4 rfl (lv_at hl 1 rfl) ?_
    refine lv_aload_n hx hb d_Tx_sameString_5 rfl (lv_at hl 0 rfl) ?_
    refine o_get (v := .int (Tx_total a0)) C in_Tx hP 12 cw_12 rfl 10 (by decide) k_1_56 rfl rfl d_Tx_sameString_6 ?_
    refine lv_icmp_ge (tgt := 39) hx hb d_Tx_sameString_9 (by decide) (fun c2 => ?_) (fun c2 => ?_)
    · replace h := o_tt c2 h
      refine lv_iconst (v := (0:Int32)) hx hb d_Tx_sameString_39 (by decide) ?_
      cases h
      exact o_rz (v := (0:Int32)) C o_nar0 hP hS d_Tx_sameString_40
    · replace h := o_ff c2 h
      refine lv_iload_n hx hb d_Tx_sameString_12 rfl (lv_at hl 3 rfl) ?_
      refine lv_if_lt (tgt := 39) hx hb d_Tx_sameString_13 (by decide) (fun c3 => ?_) (fun c3 => ?_)
      · replace h := o_tt c3 h
        refine lv_iconst (v := (0:Int32)) hx hb d_Tx_sameString_39 (by decide) ?_
        cases h
        exact o_rz (v := (0:Int32)) C o_nar0 hP hS d_Tx_sameString_40
      · replace h := o_ff c3 h
        refine lv_iload_n hx hb d_Tx_sameString_16 rfl (lv_at hl 3 rfl) ?_
        refine lv_aload_n hx hb d_Tx_sameString_17 rfl (lv_at hl 2 rfl) ?_
        refine o_get (v := .int (Tx_total a0)) C in_Tx hP 12 cw_12 rfl 10 (by decide) k_1_56 rfl rfl d_Tx_sameString_18 ?_
        refine lv_icmp_ge (tgt := 39) hx hb d_Tx_sameString_21 (by decide) (fun c4 => ?_) (fun c4 => ?_)
        · replace h := o_tt c4 h
          refine lv_iconst (v := (0:Int32)) hx hb d_Tx_sameString_39 (by decide) ?_
          cases h
          exact o_rz (v := (0:Int32)) C o_nar0 hP hS d_Tx_sameString_40
        · replace h := o_ff c4 h
          refine lv_aload_n hx hb d_Tx_sameString_24 rfl (lv_at hl 0 rfl) ?_
          refine o_get (v := .ref (ad 15)) C in_Tx hP 12 cw_12 rfl 2 (by decide) k_1_48 rfl rfl d_Tx_sameString_25 ?_
          refine lv_iload_n hx hb d_Tx_sameString_28 rfl (lv_at hl 1 rfl) ?_
          obtain ⟨g5, h⟩ := o_gd_some h
          refine o_iald (f := (Tx_sizes a0)) C hP 15 12 cw_15 rfl g5 d_Tx_sameString_29 ?_
          refine lv_aload_n hx hb d_Tx_sameString_30 rfl (lv_at hl 2 rfl) ?_
          refine o_get (v := .ref (ad 15)) C in_Tx hP 12 cw_12 rfl 2 (by decide) k_1_48 rfl rfl d_Tx_sameString_31 ?_
          refine lv_iload_n hx hb d_Tx_sameString_34 rfl (lv_at hl 3 rfl) ?_
          obtain ⟨g6, h⟩ := o_gd_some h
          refine o_iald (f := (Tx_sizes a0)) C hP 15 12 cw_15 rfl g6 d_Tx_sameString_35 ?_
          refine lv_icmp_eq (tgt := 41) hx hb d_Tx_sameString_36 (by decide) (fun c7 => ?_) (fun c7 => ?_)
          · replace h := o_tt c7 h
            refine lv_aload_n hx hb d_Tx_sameString_41 rfl (lv_at hl 0 rfl) ?_
            refine o_get (v := .ref (ad 18)) C in_Tx hP 12 cw_12 rfl 5 (by decide) k_1_51 rfl rfl d_Tx_sameString_42 ?_
            refine lv_iload_n hx hb d_Tx_sameString_45 rfl (lv_at hl 1 rfl) ?_
            obtain ⟨g8, h⟩ := o_gd_some h
            refine o_iald (f := (Tx_starts a0)) C hP 18 15 cw_18 rfl g8 d_Tx_sameString_46 ?_
            refine lv_topi (fun x4_47 ex4_47 => ?_)
            replace h := o_nm_at ex4_47 h
            refine lv_istore (lv' := [(4, .int x4_47), (0, .ref (ad 12)), (1, .int x1), (2, .ref (ad 12)), (3, .int x3)]) hx hb d_Tx_sameString_47 hl (by decide) rfl (fun ls hl => ?_)
            refine lv_aload_n hx hb d_Tx_sameString_49 rfl (lv_at hl 3 rfl) ?_
            refine o_get (v := .ref (ad 18)) C in_Tx hP 12 cw_12 rfl 5 (by decide) k_1_51 rfl rfl d_Tx_sameString_50 ?_
            refine lv_iload_n hx hb d_Tx_sameString_53 rfl (lv_at hl 4 rfl) ?_
            obtain ⟨g9, h⟩ := o_gd_some h
            refine o_iald (f := (Tx_starts a0)) C hP 18 15 cw_18 rfl g9 d_Tx_sameString_54 ?_
            refine lv_topi (fun x5_55 ex5_55 => ?_)
            replace h := o_nm_at ex5_55 h
            refine lv_istore (lv' := [(5, .int x5_55), (4, .int x4_47), (0, .ref (ad 12)), (1, .int x1), (2, .ref (ad 12)), (3, .int x3)]) hx hb d_Tx_sameString_55 hl (by decide) rfl (fun ls hl => ?_)
            refine lv_aload_n hx hb d_Tx_sameString_57 rfl (lv_at hl 2 rfl) ?_
            refine o_get (v := .ref (ad 15)) C in_Tx hP 12 cw_12 rfl 2 (by decide) k_1_48 rfl rfl d_Tx_sameString_58 ?_
            refine lv_iload_n hx hb d_Tx_sameString_61 rfl (lv_at hl 3 rfl) ?_
            obtain ⟨g10, h⟩ := o_gd_some h
            refine o_iald (f := (Tx_sizes a0)) C hP 15 12 cw_15 rfl g10 d_Tx_sameString_62 ?_
            refine lv_topi (fun x6_63 ex6_63 => ?_)
            replace h := o_nm_at ex6_63 h
            refine lv_istore (lv' := [(6, .int x6_63), (5, .int x5_55), (4, .int x4_47), (0, .ref (ad 12)), (1, .int x1), (2, .ref (ad 12)), (3, .int x3)]) hx hb d_Tx_sameString_63 hl (by decide) rfl (fun ls hl => ?_)
            refine lv_iload hx hb d_Tx_sameString_65 (lv_at hl 2 rfl) ?_
            refine lv_if_lt (tgt := 97) hx hb d_Tx_sameString_67 (by decide) (fun c11 => ?_) (fun c11 => ?_)
            · replace h := o_tt c11 h
              refine lv_iconst (v := (0:Int32)) hx hb d_Tx_sameString_97 (by decide) ?_
              cases h
              exact o_rz (v := (0:Int32)) C o_nar0 hP hS d_Tx_sameString_98
            · replace h := o_ff c11 h
              refine lv_iload hx hb d_Tx_sameString_70 (lv_at hl 2 rfl) ?_
              refine lv_iload hx hb d_Tx_sameString_72 (lv_at hl 0 rfl) ?_
              refine lv_iadd hx hb d_Tx_sameString_74 ?_
              refine lv_sipush (v := (8192:Int32)) hx hb d_Tx_sameString_75 (by decide) ?_
              refine lv_icmp_gt (tgt := 97) hx hb d_Tx_sameString_78 (by decide) (fun c12 => ?_) (fun c12 => ?_)
              · replace h := o_tt c12 h
                refine lv_iconst (v := (0:Int32)) hx hb d_Tx_sameString_97 (by decide) ?_
                cases h
                exact o_rz (v := (0:Int32)) C o_nar0 hP hS d_Tx_sameString_98
              · replace h := o_ff c12 h
                refine lv_iload hx hb d_Tx_sameString_81 (lv_at hl 1 rfl) ?_
                refine lv_if_lt (tgt := 97) hx hb d_Tx_sameString_83 (by decide) (fun c13 => ?_) (fun c13 => ?_)
                · replace h := o_tt c13 h
                  refine lv_iconst (v := (0:Int32)) hx hb d_Tx_sameString_97 (by decide) ?_
                  cases h
                  exact o_rz (v := (0:Int32)) C o_nar0 hP hS d_Tx_sameString_98
                · replace h := o_ff c13 h
                  refine lv_iload hx hb d_Tx_sameString_86 (lv_at hl 1 rfl) ?_
                  refine lv_iload hx hb d_Tx_sameString_88 (lv_at hl 0 rfl) ?_
                  refine lv_iadd hx hb d_Tx_sameString_90 ?_
                  refine lv_sipush (v := (8192:Int32)) hx hb d_Tx_sameString_91 (by decide) ?_
                  refine lv_icmp_le (tgt := 99) hx hb d_Tx_sameString_94 (by decide) (fun c14 => ?_) (fun c14 => ?_)
                  · replace h := o_tt c14 h
                    refine lv_iconst (v := (0:Int32)) hx hb d_Tx_sameString_99 (by decide) ?_
                    refine lv_istore (lv' := [(7, .int (0:Int32)), (6, .int x6_63), (5, .int x5_55), (4, .int x4_47), (0, .ref (ad 12)), (1, .int x1), (2, .ref (ad 12)), (3, .int x3)]) hx hb d_Tx_sameString_100 hl (by decide) rfl (fun ls hl => ?_)
                    obtain ⟨q1, hq1, h⟩ := o_bd_some h
                    refine o_sim2 (AH := fun zz => o_At p l e rm_Tx_sameString s m _ below meth c _ o_cls D A 8 102 [] (o_cw ad ca rt Sj T0 a0 Rd Pg Pt Mk Lk Ck Jd Ld Pr) [(0, .ref (ad 12)), (2, .ref (ad 12)), (4, .int x4_47), (5, .int x5_55), (6, .int x6_63), (7, .int zz)]) (AX := fun qq => if qq.1 = 1 then o_At p l e rm_Tx_sameString s m _ below meth c _ o_cls D A 8 132 [] (o_cw ad ca rt Sj T0 a0 Rd Pg Pt Mk Lk Ck Jd Ld Pr) [] else o_At p l e rm_Tx_sameString s m _ below meth c _ o_cls D A 8 140 [] (o_cw ad ca rt Sj T0 a0 Rd Pg Pt Mk Lk Ck Jd Ld Pr) []) (fun zz qq h h0 h1 => w_Tx_sameString_b102_11 hE C hDD n x4_47 x5_55 x6_63 a0 Sj T0 Rd Pg Pt Mk Lk Ck Jd Ld Pr rt zz qq h h0 h1) n _ q1 hq1 ?_ _ _ _ hP hS (lv_sub hl [4, 6, 3, 2, 1, 0] rfl)
                    by_cases c19 : q1.1 = 1
                    · replace h := o_tt c19 h
                      refine o_ip c19 ?_
                      intro H locs ls hP hS hl
                      refine lv_iconst (v := (0:Int32)) hx hb d_Tx_sameString_132 (by decide) ?_
                      cases h
                      exact o_rz (v := (0:Int32)) C o_nar0 hP hS d_Tx_sameString_133
                    replace h := o_ff c19 h
                    refine o_in_ c19 ?_
                    intro H locs ls hP hS hl
                    refine lv_iconst (v := (1:Int32)) hx hb d_Tx_sameString_140 (by decide) ?_
                    cases h
                    exact o_rz (v := (1:Int32)) C o_nar1 hP hS d_Tx_sameString_141
                  · replace h := o_ff c14 h
                    refine lv_iconst (v := (0:Int32)) hx hb d_Tx_sameString_97 (by decide) ?_
                    cases h
                    exact o_rz (v := (0:Int32)) C o_nar0 hP hS d_Tx_sameString_98
          · replace h := o_ff c7 h
            refine lv_iconst (v := (0:Int32)) hx hb d_Tx_sameString_39 (by decide) ?_
            cases h
            exact o_rz (v := (0:Int32)) C o_nar0 hP hS d_Tx_sameString_40
set_option maxHeartbeats 4000000 in
set_option maxRecDepth 100000 in
theorem w_Tx_member_b10_11 {E : (Nat → Prop) → State → Heap → Prop} {p : Program} {l : Launch} {e : Env} {s : State} {m : MethodId} {args : Array Value} {below : List Frame} {meth : Method} {c : Code} {D : va_G} {ad kd sd vd xd : Nat → Nat} {ca : Nat → ClassId} {A : Nat → Prop} {Q : State → Prop} (hE : o_EK E kd sd vd xd) (C : o_Cx E p s m args meth c D o_cls (o_tys ca) "SchemaJudge$Text" b_Tx_member (some .int) 6 cc_Tx_member A) (hDD : ∀ (rt : Nat) (Sj : SSJ) (T0 : STx) (T1 : STx) (Rd : SRd) (Pg : SPg) (Pt : SPt) (Mk : SMk) (Lk : SLk) (Ck : SCk) (Jd : SJd) (Ld : SLd) (Pr : SPr), va_D A (o_cw ad ca rt Sj T0 T1 Rd Pg Pt Mk Lk Ck Jd Ld Pr)) (n : Nat) (u10_x1 : Int32) (u10_x3 : Int32) (u10_a0 : STx) (u10_Sj : SSJ) (u10_T0 : STx) (u10_Rd : SRd) (u10_Pg : SPg) (u10_Pt : SPt) (u10_Mk : SMk) (u10_Lk : SLk) (u10_Ck : SCk) (u10_Jd : SJd) (u10_Ld : SLd) (u10_Pr : SPr) (u10_rt : Nat) (z : Int32 × Int32) (q : Nat × Int32 × Int32) (h : m_Tx_member_b10 n u10_x1 u10_x3 u10_a0 u10_a0 z = some q) (h0 : q.1 = 0 → o_At p l e rm_Tx_member s m args below meth c Q o_cls D A 6 10 [] (o_cw ad ca u10_rt u10_Sj u10_T0 u10_a0 u10_Rd u10_Pg u10_Pt u10_Mk u10_Lk u10_Ck u10_Jd u10_Ld u10_Pr) [(0, .ref (ad 12)), (1, .int u10_x1), (2, .ref (ad 12)), (3, .int u10_x3), (4, .int q.2.1), (5, .int q.2.2)]) (h1 : q.1 ≠ 0 → (if q.1 = 1 then o_At p l e rm_Tx_member s m args below meth c Q o_cls D A 6 33 [] (o_cw ad ca u10_rt u10_Sj u10_T0 u10_a0 u10_Rd u10_Pg u10_Pt u10_Mk u10_Lk u10_Ck u10_Jd u10_Ld u10_Pr) [(4, .int q.2.1)] else o_At p l e rm_Tx_member s m args below meth c Q o_cls D A 6 50 [] (o_cw ad ca u10_rt u10_Sj u10_T0 u10_a0 u10_Rd u10_Pg u10_Pt u10_Mk u10_Lk u10_Ck u10_Jd u10_Ld u10_Pr) [])) : o_At p l e rm_Tx_member s m args below meth c Q o_cls D A 6 10 [] (o_cw ad ca u10_rt u10_Sj u10_T0 u10_a0 u10_Rd u10_Pg u10_Pt u10_Mk u10_Lk u10_Ck u10_Jd u10_Ld u10_Pr) [(0, .ref (ad 12)), (1, .int u10_x1), (2, .ref (ad 12)), (3, .int u10_x3), (4, .int z.1), (5, .int z.2)] := by
  unfold m_Tx_member_b10 at h
  intro H locs ls hP hS hl
  have C0 := C
  obtain ⟨hx, hb, -, -, -, hown, hts, hK, -, -⟩ := C0
  refine lv_iload hx hb d_Tx_member_10 (lv_at hl 5 rfl) ?_
  refine lv_aload_n hx hb d_Tx_member_12 rfl (lv_at hl 0 rfl) ?_
  refine lv_iload_n hx hb d_Tx_member_13 rfl (lv_at hl 1 rfl) ?_
  obtain ⟨q2, hq2, h⟩ := o_bd_some h
  refine o_V (st1 := [.int q2, .int z.2]) (w1 := (o_cw ad ca u10_rt u10_Sj u10_T0 u10_a0 u10_Rd u10_Pg u10_Pt u10_Mk u10_Lk u10_Ck u10_Jd u10_Ld u10_Pr)) hE.1 C (c_Tx_size_1 hE l u10_x1 u10_a0 u10_Sj u10_T0 u10_Rd u10_Pg u10_Pt u10_Mk u10_Lk u10_Ck u10_Jd u10_Ld u10_Pr u10_rt hq2) hP (hDD _ _ _ _ _ _ _ _ _ _ _ _ _) hS hl.1 rfl cw_12 k_3_214 k_3_215 k_3_216 k_1_2 k_3_217 hv_Tx_size rfl rfl ⟨(Nat.le_of_ble_eq_true rfl), (Nat.le_of_ble_eq_true rfl)⟩ rfl (Nat.le_of_ble_eq_true rfl) ⟨Nat.zero_le _, Nat.zero_le _⟩ rfl d_Tx_member_14 (fun H locs hP hS => ?_)
  refine lv_icmp_ge (tgt := 50) hx hb d_Tx_member_17 (by decide) (fun c1 => ?_) (fun c1 => ?_)
  · replace h := o_tt c1 h
    cases h
    exact h1 (Nat.succ_ne_zero 1) _ _ _ hP hS (lv_sub hl [] rfl)
  · replace h := o_ff c1 h
    refine lv_aload_n hx hb d_Tx_member_20 rfl (lv_at hl 0 rfl) ?_
    refine lv_iload hx hb d_Tx_member_21 (lv_at hl 4 rfl) ?_
    refine lv_iconst (v := (1:Int32)) hx hb d_Tx_member_23 (by decide) ?_
    refine lv_isub hx hb d_Tx_member_24 ?_
    refine lv_aload_n hx hb d_Tx_member_25 rfl (lv_at hl 2 rfl) ?_
    refine lv_iload_n hx hb d_Tx_member_26 rfl (lv_at hl 3 rfl) ?_
    obtain ⟨q3, hq3, h⟩ := o_bd_some h
    refine o_S (st1 := [.int q3]) (w1 := (o_cw ad ca u10_rt u10_Sj u10_T0 u10_a0 u10_Rd u10_Pg u10_Pt u10_Mk u10_Lk u10_Ck u10_Jd u10_Ld u10_Pr)) hE.1 C (c_Tx_sameString_11 hE l n (z.1 - (1:Int32)) u10_x3 u10_a0 u10_Sj u10_T0 u10_Rd u10_Pg u10_Pt u10_Mk u10_Lk u10_Ck u10_Jd u10_Ld u10_Pr u10_rt hq3) hP (hDD _ _ _ _ _ _ _ _ _ _ _ _ _) hS hl.1 k_3_218 k_3_219 k_1_2 k_3_220 hs_Tx_sameString rfl rfl ⟨(Nat.le_of_ble_eq_true rfl), (Nat.le_of_ble_eq_true rfl)⟩ rfl (Nat.le_of_ble_eq_true rfl) ⟨Nat.zero_le _, Nat.zero_le _⟩ rfl d_Tx_member_27 (fun H locs hP hS => ?_)
    refine lv_if_eq (tgt := 36) hx hb d_Tx_member_30 (by decide) (fun c2 => ?_) (fun c2 => ?_)
    · replace h := o_tt c2 h
      refine lv_aload_n hx hb d_Tx_member_36 rfl (lv_at hl 0 rfl) ?_
      refine lv_iload hx hb d_Tx_member_37 (lv_at hl 4 rfl) ?_
      obtain ⟨q4, hq4, h⟩ := o_bd_some h
      refine o_V (st1 := [.int q4]) (w1 := (o_cw ad ca u10_rt u10_Sj u10_T0 u10_a0 u10_Rd u10_Pg u10_Pt u10_Mk u10_Lk u10_Ck u10_Jd u10_Ld u10_Pr)) hE.1 C (c_Tx_nextChild_1 hE l z.1 u10_a0 u10_Sj u10_T0 u10_Rd u10_Pg u10_Pt u10_Mk u10_Lk u10_Ck u10_Jd u10_Ld u10_Pr u10_rt hq4) hP (hDD _ _ _ _ _ _ _ _ _ _ _ _ _) hS hl.1 rfl cw_12 k_3_221 k_3_222 k_3_223 k_1_2 k_3_224 hv_Tx_nextChild rfl rfl ⟨(Nat.le_of_ble_eq_true rfl), (Nat.le_of_ble_eq_true rfl)⟩ rfl (Nat.le_of_ble_eq_true rfl) ⟨Nat.zero_le _, Nat.zero_le _⟩ rfl d_Tx_member_39 (fun H locs hP hS => ?_)
      refine lv_istore (lv' := [(4, .int q4), (0, .ref (ad 12)), (1, .int u10_x1), (2, .ref (ad 12)), (3, .int u10_x3), (5, .int z.2)]) hx hb d_Tx_member_42 hl (by decide) rfl (fun ls hl => ?_)
      obtain ⟨x5_44, ex5_44⟩ : ∃ y : Int32, y = z.2 + (1:Int32) := ⟨_, rfl⟩
      replace h := o_nm_at ex5_44 h
      refine lv_iinc (v := x5_44) (lv' := [(5, .int x5_44), (4, .int q4), (0, .ref (ad 12)), (1, .int u10_x1), (2, .ref (ad 12)), (3, .int u10_x3)]) hx hb d_Tx_member_44 hl (k := 5) rfl (by rw [ex5_44]; rfl) (by decide) rfl (fun ls hl => ?_)
      refine lv_goto (tgt := 10) hx hb d_Tx_member_47 (by decide) ?_
      cases h
      exact h0 rfl _ _ _ hP hS (lv_sub hl [2, 3, 4, 5, 1, 0] rfl)
    · replace h := o_ff c2 h
      cases h
      exact h1 (Nat.succ_ne_zero 0) _ _ _ hP hS (lv_sub hl [4] rfl)
set_option maxHeartbeats 4000000 in
set_option maxRecDepth 100000 in
theorem c_Tx_member_11 {E : (Nat → Prop) → State → Heap → Prop} {D : va_G} {ad kd sd vd xd : Nat → Nat} {ca : Nat → ClassId} (hE : o_EK E kd sd vd xd) (l : Launch) (n : Nat) (x1 : Int32) (x3 : Int32) (a0 : STx) (Sj : SSJ) (T0 : STx) (Rd : SRd) (Pg : SPg) (Pt : SPt) (Mk : SMk) (Lk : SLk) (Ck : SCk) (Jd : SJd) (Ld : SLd) (Pr : SPr) (rt : Nat) {r : Int32} (h : m_Tx_member n x1 x3 a0 a0 = some r) : o_Cn E l D o_cls (o_tys ca) y_Tx_member cc_Tx_member rm_Tx_member [.ref (ad 12), .int x1, .ref (ad 12), .int x3] (o_cw ad ca rt Sj T0 a0 Rd Pg Pt Mk Lk Ck Jd Ld Pr) (o_cw ad ca rt Sj T0 a0 Rd Pg Pt Mk Lk Ck Jd Ld Pr) (some (.int r)) := by
  refine o_Cn_of (by decide) (Nat.le_of_ble_eq_true rfl) ?_
  intro p e s m below meth c A ls C hD hP hS hl
  have hDD : ∀ (rt : Nat) (Sj : SSJ) (T0 : STx) (T1 : STx) (Rd : SRd) (Pg : SPg) (Pt : SPt) (Mk : SMk) (Lk : SLk) (Ck : SCk) (Jd : SJd) (Ld : SLd) (Pr : SPr), va_D A (o_cw ad ca rt Sj T0 T1 Rd Pg Pt Mk Lk Ck Jd Ld Pr) := fun _ _ _ _ _ _ _ _ _ _ _ _ _ => o_D_map hD rfl
  have hl : lv_has ls 6 [(0, .ref (ad 12)), (1, .int x1), (2, .ref (ad 12)), (3, .int x3)] := hl
  unfold m_Tx_member at h
  have C0 := C
  obtain ⟨hx, hb, -, -, -, hown, hts, hK, -, -⟩ := C0
  refine lv_aload_n hx hb d_Tx_member_0 rfl (lv_at hl 0 rfl) ?_
  refine lv_iload_n hx hb d_Tx_member_1 rfl (lv_at hl 1 rfl) ?_
  obtain ⟨q1, hq1, h⟩ := o_bd_some h
  refine o_V (st1 := [.int q1]) (w1 := (o_cw ad ca rt Sj T0 a0 Rd Pg Pt Mk Lk Ck Jd Ld Pr)) hE.1 C (c_Tx_firstChild_1 hE l x1 a0 Sj T0 Rd Pg Pt Mk Lk Ck Jd Ld Pr rt hq1) hP (hDD _ _ _ _ _ _ _ _ _ _ _ _ _) hS hl.1 rfl cw_12 k_3_210 k_3_211 k_3_212 k_1_2 k_3_213 hv_Tx_firstChild rfl rfl ⟨(Nat.le_of_ble_eq_true rfl), (Nat.le_of_ble_eq_true rfl)⟩ rfl (Nat.le_of_ble_eq_true rfl) ⟨Nat.zero_le _, Nat.zero_le _⟩ rfl d_Tx_member_2 (fun H locs hP hS => ?_)
  refine lv_istore (lv' := [(4, .int q1), (0, .ref (ad 12)), (1, .int x1), (2, .ref (ad 12)), (3, .int x3)]) hx hb d_Tx_member_5 hl (by decide) rfl (fun ls hl => ?_)
  refine lv_iconst (v := (0:Int32)) hx hb d_Tx_member_7 (by decide) ?_
  refine lv_istore (lv' := [(5, .int (0:Int32)), (4, .int q1), (0, .ref (ad 12)), (1, .int x1), (2, .ref (ad 12)), (3, .int x3)]) hx hb d_Tx_member_8 hl (by decide) rfl (fun ls hl => ?_)
  obtain ⟨q5, hq5, h⟩ := o_bd_some h
  refine o_sim2 (AH := fun zz => o_At p l e rm_Tx_member s m _ below meth c _ o_cls D A 6 10 [] (o_cw ad ca rt Sj T0 a0 Rd Pg Pt Mk Lk Ck Jd Ld Pr) [(0, .ref (ad 12)), (1, .int x1), (2, .ref (ad 12)), (3, .int x3), (4, .int zz.1), (5, .int zz.2)]) (AX := fun qq => if qq.1 = 1 then o_At p l e rm_Tx_member s m _ below meth c _ o_cls D A 6 33 [] (o_cw ad ca rt Sj T0 a0 Rd Pg Pt Mk Lk Ck Jd Ld Pr) [(4, .int qq.2.1)] else o_At p l e rm_Tx_member s m _ below meth c _ o_cls D A 6 50 [] (o_cw ad ca rt Sj T0 a0 Rd Pg Pt Mk Lk Ck Jd Ld Pr) []) (fun zz qq h h0 h1 => w_Tx_member_b10_11 hE C hDD n x1 x3 a0 Sj T0 Rd Pg Pt Mk Lk Ck Jd Ld Pr rt zz qq h h0 h1) n _ q5 hq5 ?_ _ _ _ hP hS (lv_sub hl [2, 3, 4, 5, 1, 0] rfl)
  by_cases c3 : q5.1 = 1
  · replace h := o_tt c3 h
    refine o_ip c3 ?_
    intro H locs ls hP hS hl
    refine lv_iload hx hb d_Tx_member_33 (lv_at hl 0 rfl) ?_
    cases h
    exact o_ri C hP hS d_Tx_member_35
  replace h := o_ff c3 h
  refine o_in_ c3 ?_
  intro H locs ls hP hS hl
  refine lv_iconst (v := (-1:Int32)) hx hb d_Tx_member_50 (by decide) ?_
  cases h
  exact o_ri (v := (-1:Int32)) C hP hS d_Tx_member_51
set_option maxHeartbeats 4000000 in
set_option maxRecDepth 100000 in
theorem w_Tx_compare_j22_11 {E : (Nat → Prop) → State → Heap → Prop} {p : Program} {l : Launch} {e : Env} {s : State} {m : MethodId} {args : Array Value} {below : List Frame} {meth : Method} {c : Code} {D : va_G} {ad kd sd vd xd : Nat → Nat} {ca : Nat → ClassId} {A : Nat → Prop} (hE : o_EK E kd sd vd xd) (C : o_Cx E p s m args meth c D o_cls (o_tys ca) "SchemaJudge$Text" b_Tx_compare (some .int) 10 cc_Tx_compare A) (hDD : ∀ (rt : Nat) (Sj : SSJ) (T0 : STx) (T1 : STx) (Rd : SRd) (Pg : SPg) (Pt : SPt) (Mk : SMk) (Lk : SLk) (Ck : SCk) (Jd : SJd) (Ld : SLd) (Pr : SPr), va_D A (o_cw ad ca rt Sj T0 T1 Rd Pg Pt Mk Lk Ck Jd Ld Pr)) (n : Nat) (x3 : Int32) (x4 : Int32) (a0 : STx) (Sj : SSJ) (T0 : STx) (Rd : SRd) (Pg : SPg) (Pt : SPt) (Mk : SMk) (Lk : SLk) (Ck : SCk) (Jd : SJd) (Ld : SLd) (Pr : SPr) (rt : Nat) {r : Int32} (h : m_Tx_compare_j22 n x3 x4 a0 a0 = some r) : o_At p l e rm_Tx_compare s m args below meth c (MQ below (o_Qx D o_cls (some (.int r)) (o_cw ad ca rt Sj T0 a0 Rd Pg Pt Mk Lk Ck Jd Ld Pr) A) args s 0 0 A) o_cls D A 10 22 [] (o_cw ad ca rt Sj T0 a0 Rd Pg Pt Mk Lk Ck Jd Ld Pr) [(2, .ref (ad 12)), (3, .int x3), (4, .int x4)] := by
  unfold m_Tx_compare_j22 at h
  intro H locs ls hP hS hl
  have C0 := C
  obtain ⟨hx, hb, -, -, -, hown, hts, hK, -, -⟩ := C0
  refine lv_iload hx hb d_Tx_compare_22 (lv_at hl 2 rfl) ?_
  refine lv_aload_n hx hb d_Tx_compare_24 rfl (lv_at hl 0 rfl) ?_
  refine lv_iload_n hx hb d_Tx_compare_25 rfl (lv_at hl 1 rfl) ?_
  obtain ⟨q3, hq3, h⟩ := o_bd_some h
  refine o_V (st1 := [.int q3, .int x4]) (w1 := (o_cw ad ca rt Sj T0 a0 Rd Pg Pt Mk Lk Ck Jd Ld Pr)) hE.1 C (c_Tx_sign_1 hE l x3 a0 Sj T0 Rd Pg Pt Mk Lk Ck Jd Ld Pr rt hq3) hP (hDD _ _ _ _ _ _ _ _ _ _ _ _ _) hS hl.1 rfl cw_12 k_5_65 k_5_57 k_5_58 k_1_2 k_5_59 hv_Tx_sign rfl rfl ⟨(Nat.le_of_ble_eq_true rfl), (Nat.le_of_ble_eq_true rfl)⟩ rfl (Nat.le_of_ble_eq_true rfl) ⟨Nat.zero_le _, Nat.zero_le _⟩ rfl d_Tx_compare_26 (fun H locs hP hS => ?_)
  refine lv_isub hx hb d_Tx_compare_29 ?_
  cases h
  exact o_ri (v := (x4 - q3)) C hP hS d_Tx_compare_30
set_option maxHeartbeats 4000000 in
set_option maxRecDepth 100000 in
theorem w_Tx_compare_b83_11 {E : (Nat → Prop) → State → Heap → Prop} {p : Program} {l : Launch} {e : Env} {s : State} {m : MethodId} {args : Array Value} {below : List Frame} {meth : Method} {c : Code} {D : va_G} {ad kd sd vd xd : Nat → Nat} {ca : Nat → ClassId} {A : Nat → Prop} {Q : State → Prop} (hE : o_EK E kd sd vd xd) (C : o_Cx E p s m args meth c D o_cls (o_tys ca) "SchemaJudge$Text" b_Tx_compare (some .int) 10 cc_Tx_compare A) (hDD : ∀ (rt : Nat) (Sj : SSJ) (T0 : STx) (T1 : STx) (Rd : SRd) (Pg : SPg) (Pt : SPt) (Mk : SMk) (Lk : SLk) (Ck : SCk) (Jd : SJd) (Ld : SLd) (Pr : SPr), va_D A (o_cw ad ca rt Sj T0 T1 Rd Pg Pt Mk Lk Ck Jd Ld Pr)) (n : Nat) (u83_x1 : Int32) (u83_x3 : Int32) (u83_x4 : Int32) (u83_a0 : STx) (u83_Sj : SSJ) (u83_T0 : STx) (u83_Rd : SRd) (u83_Pg : SPg) (u83_Pt : SPt) (u83_Mk : SMk) (u83_Lk : SLk) (u83_Ck : SCk) (u83_Jd : SJd) (u83_Ld : SLd) (u83_Pr : SPr) (u83_rt : Nat) (z : Int32 × Int32 × Int32) (q : Nat × Int32 × Int32 × Int32) (h : m_Tx_compare_b83 n u83_x1 u83_x3 u83_x4 u83_a0 u83_a0 z = some q) (h0 : q.1 = 0 → o_At p l e rm_Tx_compare s m args below meth c Q o_cls D A 10 83 [] (o_cw ad ca u83_rt u83_Sj u83_T0 u83_a0 u83_Rd u83_Pg u83_Pt u83_Mk u83_Lk u83_Ck u83_Jd u83_Ld u83_Pr) [(0, .ref (ad 12)), (1, .int u83_x1), (2, .ref (ad 12)), (3, .int u83_x3), (4, .int u83_x4), (7, .int q.2.1)]) (h1 : q.1 ≠ 0 → (if q.1 = 1 then o_At p l e rm_Tx_compare s m args below meth c Q o_cls D A 10 115 [] (o_cw ad ca u83_rt u83_Sj u83_T0 u83_a0 u83_Rd u83_Pg u83_Pt u83_Mk u83_Lk u83_Ck u83_Jd u83_Ld u83_Pr) [(4, .int u83_x4), (8, .int q.2.2.1), (9, .int q.2.2.2)] else o_At p l e rm_Tx_compare s m args below meth c Q o_cls D A 10 137 [] (o_cw ad ca u83_rt u83_Sj u83_T0 u83_a0 u83_Rd u83_Pg u83_Pt u83_Mk u83_Lk u83_Ck u83_Jd u83_Ld u83_Pr) [])) : o_At p l e rm_Tx_compare s m args below meth c Q o_cls D A 10 83 [] (o_cw ad ca u83_rt u83_Sj u83_T0 u83_a0 u83_Rd u83_Pg u83_Pt u83_Mk u83_Lk u83_Ck u83_Jd u83_Ld u83_Pr) [(0, .ref (ad 12)), (1, .int u83_x1), (2, .ref (ad 12)), (3, .int u83_x3), (4, .int u83_x4), (7, .int z.1)] := by
  unfold m_Tx_compare_b83 at h
  intro H locs ls hP hS hl
  have C0 := C
  obtain ⟨hx, hb, -, -, -, hown, hts, hK, -, -⟩ := C0
  refine lv_iload hx hb d_Tx_compare_83 (lv_at hl 5 rfl) ?_
  refine lv_bipush (v := (60:Int32)) hx hb d_Tx_compare_85 (by decide) ?_
  refine lv_icmp_ge (tgt := 137) hx hb d_Tx_compare_87 (by decide) (fun c4 => ?_) (fun c4 => ?_)
  · replace h := o_tt c4 h
    cases h
    exact h1 (Nat.succ_ne_zero 1) _ _ _ hP hS (lv_sub hl [] rfl)
  · replace h := o_ff c4 h
    refine lv_aload_n hx hb d_Tx_compare_90 rfl (lv_at hl 0 rfl) ?_
    refine lv_iload_n hx hb d_Tx_compare_91 rfl (lv_at hl 1 rfl) ?_
    refine lv_iload hx hb d_Tx_compare_92 (lv_at hl 5 rfl) ?_
    obtain ⟨q8, hq8, h⟩ := o_bd_some h
    refine o_V (st1 := [.int q8]) (w1 := (o_cw ad ca u83_rt u83_Sj u83_T0 u83_a0 u83_Rd u83_Pg u83_Pt u83_Mk u83_Lk u83_Ck u83_Jd u83_Ld u83_Pr)) hE.1 C (c_Tx_cell_1 hE l u83_x1 z.1 u83_a0 u83_Sj u83_T0 u83_Rd u83_Pg u83_Pt u83_Mk u83_Lk u83_Ck u83_Jd u83_Ld u83_Pr u83_rt hq8) hP (hDD _ _ _ _ _ _ _ _ _ _ _ _ _) hS hl.1 rfl cw_12 k_5_70 k_4_117 k_4_118 k_1_2 k_4_119 hv_Tx_cell rfl rfl ⟨(Nat.le_of_ble_eq_true rfl), (Nat.le_of_ble_eq_true rfl)⟩ rfl (Nat.le_of_ble_eq_true rfl) ⟨Nat.zero_le _, Nat.zero_le _⟩ rfl d_Tx_compare_94 (fun H locs hP hS => ?_)
    refine lv_istore (lv' := [(8, .int q8), (0, .ref (ad 12)), (1, .int u83_x1), (2, .ref (ad 12)), (3, .int u83_x3), (4, .int u83_x4), (7, .int z.1)]) hx hb d_Tx_compare_97 hl (by decide) rfl (fun ls hl => ?_)
    refine lv_aload_n hx hb d_Tx_compare_99 rfl (lv_at hl 3 rfl) ?_
    refine lv_iload_n hx hb d_Tx_compare_100 rfl (lv_at hl 4 rfl) ?_
    refine lv_iload hx hb d_Tx_compare_101 (lv_at hl 6 rfl) ?_
    obtain ⟨q9, hq9, h⟩ := o_bd_some h
    refine o_V (st1 := [.int q9]) (w1 := (o_cw ad ca u83_rt u83_Sj u83_T0 u83_a0 u83_Rd u83_Pg u83_Pt u83_Mk u83_Lk u83_Ck u83_Jd u83_Ld u83_Pr)) hE.1 C (c_Tx_cell_1 hE l u83_x3 z.1 u83_a0 u83_Sj u83_T0 u83_Rd u83_Pg u83_Pt u83_Mk u83_Lk u83_Ck u83_Jd u83_Ld u83_Pr u83_rt hq9) hP (hDD _ _ _ _ _ _ _ _ _ _ _ _ _) hS hl.1 rfl cw_12 k_5_70 k_4_117 k_4_118 k_1_2 k_4_119 hv_Tx_cell rfl rfl ⟨(Nat.le_of_ble_eq_true rfl), (Nat.le_of_ble_eq_true rfl)⟩ rfl (Nat.le_of_ble_eq_true rfl) ⟨Nat.zero_le _, Nat.zero_le _⟩ rfl d_Tx_compare_103 (fun H locs hP hS => ?_)
    refine lv_istore (lv' := [(9, .int q9), (8, .int q8), (0, .ref (ad 12)), (1, .int u83_x1), (2, .ref (ad 12)), (3, .int u83_x3), (4, .int u83_x4), (7, .int z.1)]) hx hb d_Tx_compare_106 hl (by decide) rfl (fun ls hl => ?_)
    refine lv_iload hx hb d_Tx_compare_108 (lv_at hl 1 rfl) ?_
    refine lv_iload hx hb d_Tx_compare_110 (lv_at hl 0 rfl) ?_
    refine lv_icmp_eq (tgt := 131) hx hb d_Tx_compare_112 (by decide) (fun c5 => ?_) (fun c5 => ?_)
    · replace h := o_tt c5 h
      obtain ⟨x7_131, ex7_131⟩ : ∃ y : Int32, y = z.1 + (1:Int32) := ⟨_, rfl⟩
      replace h := o_nm_at ex7_131 h
      refine lv_iinc (v := x7_131) (lv' := [(7, .int x7_131), (9, .int q9), (8, .int q8), (0, .ref (ad 12)), (1, .int u83_x1), (2, .ref (ad 12)), (3, .int u83_x3), (4, .int u83_x4)]) hx hb d_Tx_compare_131 hl (k := 7) rfl (by rw [ex7_131]; rfl) (by decide) rfl (fun ls hl => ?_)
      refine lv_goto (tgt := 83) hx hb d_Tx_compare_134 (by decide) ?_
      cases h
      exact h0 rfl _ _ _ hP hS (lv_sub hl [3, 4, 5, 6, 7, 0] rfl)
    · replace h := o_ff c5 h
      cases h
      exact h1 (Nat.succ_ne_zero 0) _ _ _ hP hS (lv_sub hl [6, 1, 0] rfl)
set_option maxHeartbeats 4000000 in
set_option maxRecDepth 100000 in
theorem c_Tx_compare_11 {E : (Nat → Prop) → State → Heap → Prop} {D : va_G} {ad kd sd vd xd : Nat → Nat} {ca : Nat → ClassId} (hE : o_EK E kd sd vd xd) (l : Launch) (n : Nat) (x1 : Int32) (x3 : Int32) (a0 : STx) (Sj : SSJ) (T0 : STx) (Rd : SRd) (Pg : SPg) (Pt : SPt) (Mk : SMk) (Lk : SLk) (Ck : SCk) (Jd : SJd) (Ld : SLd) (Pr : SPr) (rt : Nat) {r : Int32} (h : m_Tx_compare n x1 x3 a0 a0 = some r) : o_Cn E l D o_cls (o_tys ca) y_Tx_compare cc_Tx_compare rm_Tx_compare [.ref (ad 12), .int x1, .ref (ad 12), .int x3] (o_cw ad ca rt Sj T0 a0 Rd Pg Pt Mk Lk Ck Jd Ld Pr) (o_cw ad ca rt Sj T0 a0 Rd Pg Pt Mk Lk Ck Jd Ld Pr) (some (.int r)) := by
  refine o_Cn_of (by decide) (Nat.le_of_ble_eq_true rfl) ?_
  intro p e s m below meth c A ls C hD hP hS hl
  have hDD : ∀ (rt : Nat) (Sj : SSJ) (T0 : STx) (T1 : STx) (Rd : SRd) (Pg : SPg) (Pt : SPt) (Mk : SMk) (Lk : SLk) (Ck : SCk) (Jd : SJd) (Ld : SLd) (Pr : SPr), va_D A (o_cw ad ca rt Sj T0 T1 Rd Pg Pt Mk Lk Ck Jd Ld Pr) := fun _ _ _ _ _ _ _ _ _ _ _ _ _ => o_D_map hD rfl
  have hl : lv_has ls 10 [(0, .ref (ad 12)), (1, .int x1), (2, .ref (ad 12)), (3, .int x3)] := hl
  unfold m_Tx_compare at h
  have C0 := C
  obtain ⟨hx, hb, -, -, -, hown, hts, hK, -, -⟩ := C0
  refine lv_aload_n hx hb d_Tx_compare_0 rfl (lv_at hl 0 rfl) ?_
  refine lv_iload_n hx hb d_Tx_compare_1 rfl (lv_at hl 1 rfl) ?_
  obtain ⟨q1, hq1, h⟩ := o_bd_some h
  refine o_V (st1 := [.int q1]) (w1 := (o_cw ad ca rt Sj T0 a0 Rd Pg Pt Mk Lk Ck Jd Ld Pr)) hE.1 C (c_Tx_sign_1 hE l x1 a0 Sj T0 Rd Pg Pt Mk Lk Ck Jd Ld Pr rt hq1) hP (hDD _ _ _ _ _ _ _ _ _ _ _ _ _) hS hl.1 rfl cw_12 k_5_65 k_5_57 k_5_58 k_1_2 k_5_59 hv_Tx_sign rfl rfl ⟨(Nat.le_of_ble_eq_true rfl), (Nat.le_of_ble_eq_true rfl)⟩ rfl (Nat.le_of_ble_eq_true rfl) ⟨Nat.zero_le _, Nat.zero_le _⟩ rfl d_Tx_compare_2 (fun H locs hP hS => ?_)
  refine lv_istore (lv' := [(4, .int q1), (0, .ref (ad 12)), (1, .int x1), (2, .ref (ad 12)), (3, .int x3)]) hx hb d_Tx_compare_5 hl (by decide) rfl (fun ls hl => ?_)
  refine lv_iload hx hb d_Tx_compare_7 (lv_at hl 0 rfl) ?_
  refine lv_aload_n hx hb d_Tx_compare_9 rfl (lv_at hl 3 rfl) ?_
  refine lv_iload_n hx hb d_Tx_compare_10 rfl (lv_at hl 4 rfl) ?_
  obtain ⟨q2, hq2, h⟩ := o_bd_some h
  refine o_V (st1 := [.int q2, .int q1]) (w1 := (o_cw ad ca rt Sj T0 a0 Rd Pg Pt Mk Lk Ck Jd Ld Pr)) hE.1 C (c_Tx_sign_1 hE l x3 a0 Sj T0 Rd Pg Pt Mk Lk Ck Jd Ld Pr rt hq2) hP (hDD _ _ _ _ _ _ _ _ _ _ _ _ _) hS hl.1 rfl cw_12 k_5_65 k_5_57 k_5_58 k_1_2 k_5_59 hv_Tx_sign rfl rfl ⟨(Nat.le_of_ble_eq_true rfl), (Nat.le_of_ble_eq_true rfl)⟩ rfl (Nat.le_of_ble_eq_true rfl) ⟨Nat.zero_le _, Nat.zero_le _⟩ rfl d_Tx_compare_11 (fun H locs hP hS => ?_)
  refine lv_icmp_ne (tgt := 22) hx hb d_Tx_compare_14 (by decide) (fun c1 => ?_) (fun c1 => ?_)
  · replace h := o_ff c1 h
    exact w_Tx_compare_j22_11 hE C hDD n x3 q1 a0 Sj T0 Rd Pg Pt Mk Lk Ck Jd Ld Pr rt h _ _ _ hP hS (lv_sub hl [3, 4, 0] rfl)
  · replace h := o_tt c1 h
    refine lv_iload hx hb d_Tx_compare_17 (lv_at hl 0 rfl) ?_
    refine lv_if_ne (tgt := 31) hx hb d_Tx_compare_19 (by decide) (fun c2 => ?_) (fun c2 => ?_)
    · replace h := o_ff c2 h
      refine lv_aload_n hx hb d_Tx_compare_31 rfl (lv_at hl 1 rfl) ?_
      refine lv_iload_n hx hb d_Tx_compare_32 rfl (lv_at hl 2 rfl) ?_
      obtain ⟨q4, hq4, h⟩ := o_bd_some h
      refine o_V (st1 := [.int q4]) (w1 := (o_cw ad ca rt Sj T0 a0 Rd Pg Pt Mk Lk Ck Jd Ld Pr)) hE.1 C (c_Tx_size_1 hE l x1 a0 Sj T0 Rd Pg Pt Mk Lk Ck Jd Ld Pr rt hq4) hP (hDD _ _ _ _ _ _ _ _ _ _ _ _ _) hS hl.1 rfl cw_12 k_3_214 k_3_215 k_3_216 k_1_2 k_3_217 hv_Tx_size rfl rfl ⟨(Nat.le_of_ble_eq_true rfl), (Nat.le_of_ble_eq_true rfl)⟩ rfl (Nat.le_of_ble_eq_true rfl) ⟨Nat.zero_le _, Nat.zero_le _⟩ rfl d_Tx_compare_33 (fun H locs hP hS => ?_)
      refine lv_aload_n hx hb d_Tx_compare_36 rfl (lv_at hl 1 rfl) ?_
      refine lv_iload_n hx hb d_Tx_compare_37 rfl (lv_at hl 2 rfl) ?_
      obtain ⟨q5, hq5, h⟩ := o_bd_some h
      refine o_V (st1 := [.int q5, .int q4]) (w1 := (o_cw ad ca rt Sj T0 a0 Rd Pg Pt Mk Lk Ck Jd Ld Pr)) hE.1 C (c_Tx_exponent_1 hE l x1 a0 Sj T0 Rd Pg Pt Mk Lk Ck Jd Ld Pr rt hq5) hP (hDD _ _ _ _ _ _ _ _ _ _ _ _ _) hS hl.1 rfl cw_12 k_5_66 k_5_67 k_5_68 k_1_2 k_5_69 hv_Tx_exponent rfl rfl ⟨(Nat.le_of_ble_eq_true rfl), (Nat.le_of_ble_eq_true rfl)⟩ rfl (Nat.le_of_ble_eq_true rfl) ⟨Nat.zero_le _, Nat.zero_le _⟩ rfl d_Tx_compare_38 (fun H locs hP hS => ?_)
      refine lv_iadd hx hb d_Tx_compare_41 ?_
      refine lv_topi (fun x5_42 ex5_42 => ?_)
      replace h := o_nm_at ex5_42 h
      refine lv_istore (lv' := [(5, .int x5_42), (4, .int q1), (0, .ref (ad 12)), (1, .int x1), (2, .ref (ad 12)), (3, .int x3)]) hx hb d_Tx_compare_42 hl (by decide) rfl (fun ls hl => ?_)
      refine lv_aload_n hx hb d_Tx_compare_44 rfl (lv_at hl 4 rfl) ?_
      refine lv_iload_n hx hb d_Tx_compare_45 rfl (lv_at hl 5 rfl) ?_
      obtain ⟨q6, hq6, h⟩ := o_bd_some h
      refine o_V (st1 := [.int q6]) (w1 := (o_cw ad ca rt Sj T0 a0 Rd Pg Pt Mk Lk Ck Jd Ld Pr)) hE.1 C (c_Tx_size_1 hE l x3 a0 Sj T0 Rd Pg Pt Mk Lk Ck Jd Ld Pr rt hq6) hP (hDD _ _ _ _ _ _ _ _ _ _ _ _ _) hS hl.1 rfl cw_12 k_3_214 k_3_215 k_3_216 k_1_2 k_3_217 hv_Tx_size rfl rfl ⟨(Nat.le_of_ble_eq_true rfl), (Nat.le_of_ble_eq_true rfl)⟩ rfl (Nat.le_of_ble_eq_true rfl) ⟨Nat.zero_le _, Nat.zero_le _⟩ rfl d_Tx_compare_46 (fun H locs hP hS => ?_)
      refine lv_aload_n hx hb d_Tx_compare_49 rfl (lv_at hl 4 rfl) ?_
      refine lv_iload_n hx hb d_Tx_compare_50 rfl (lv_at hl 5 rfl) ?_
      obtain ⟨q7, hq7, h⟩ := o_bd_some h
      refine o_V (st1 := [.int q7, .int q6]) (w1 := (o_cw ad ca rt Sj T0 a0 Rd Pg Pt Mk Lk Ck Jd Ld Pr)) hE.1 C (c_Tx_exponent_1 hE l x3 a0 Sj T0 Rd Pg Pt Mk Lk Ck Jd Ld Pr rt hq7) hP (hDD _ _ _ _ _ _ _ _ _ _ _ _ _) hS hl.1 rfl cw_12 k_5_66 k_5_67 k_5_68 k_1_2 k_5_69 hv_Tx_exponent rfl rfl ⟨(Nat.le_of_ble_eq_true rfl), (Nat.le_of_ble_eq_true rfl)⟩ rfl (Nat.le_of_ble_eq_true rfl) ⟨Nat.zero_le _, Nat.zero_le _⟩ rfl d_Tx_compare_51 (fun H locs hP hS => ?_)
      refine lv_iadd hx hb d_Tx_compare_54 ?_
      refine lv_topi (fun x6_55 ex6_55 => ?_)
      replace h := o_nm_at ex6_55 h
      refine lv_istore (lv' := [(6, .int x6_55), (5, .int x5_42), (4, .int q1), (0, .ref (ad 12)), (1, .int x1), (2, .ref (ad 12)), (3, .int x3)]) hx hb d_Tx_compare_55 hl (by decide) rfl (fun ls hl => ?_)
      refine lv_iload hx hb d_Tx_compare_57 (lv_at hl 1 rfl) ?_
      refine lv_iload hx hb d_Tx_compare_59 (lv_at hl 0 rfl) ?_
      refine lv_icmp_eq (tgt := 80) hx hb d_Tx_compare_61 (by decide) (fun c3 => ?_) (fun c3 => ?_)
      · replace h := o_tt c3 h
        refine lv_iconst (v := (0:Int32)) hx hb d_Tx_compare_80 (by decide) ?_
        refine lv_istore (lv' := [(7, .int (0:Int32)), (6, .int x6_55), (5, .int x5_42), (4, .int q1), (0, .ref (ad 12)), (1, .int x1), (2, .ref (ad 12)), (3, .int x3)]) hx hb d_Tx_compare_81 hl (by decide) rfl (fun ls hl => ?_)
        obtain ⟨q10, hq10, h⟩ := o_bd_some h
        refine o_sim2 (AH := fun zz => o_At p l e rm_Tx_compare s m _ below meth c _ o_cls D A 10 83 [] (o_cw ad ca rt Sj T0 a0 Rd Pg Pt Mk Lk Ck Jd Ld Pr) [(0, .ref (ad 12)), (1, .int x1), (2, .ref (ad 12)), (3, .int x3), (4, .int q1), (7, .int zz.1)]) (AX := fun qq => if qq.1 = 1 then o_At p l e rm_Tx_compare s m _ below meth c _ o_cls D A 10 115 [] (o_cw ad ca rt Sj T0 a0 Rd Pg Pt Mk Lk Ck Jd Ld Pr) [(4, .int q1), (8, .int qq.2.2.1), (9, .int qq.2.2.2)] else o_At p l e rm_Tx_compare s m _ below meth c _ o_cls D A 10 137 [] (o_cw ad ca rt Sj T0 a0 Rd Pg Pt Mk Lk Ck Jd Ld Pr) []) (fun zz qq h h0 h1 => w_Tx_compare_b83_11 hE C hDD n x1 x3 q1 a0 Sj T0 Rd Pg Pt Mk Lk Ck Jd Ld Pr rt zz qq h h0 h1) n _ q10 hq10 ?_ _ _ _ hP hS (lv_sub hl [4, 5, 6, 7, 3, 0] rfl)
        by_cases c7 : q10.1 = 1
        · replace h := o_tt c7 h
          refine o_ip c7 ?_
          intro H locs ls hP hS hl
          refine lv_iload hx hb d_Tx_compare_115 (lv_at hl 1 rfl) ?_
          refine lv_iload hx hb d_Tx_compare_117 (lv_at hl 2 rfl) ?_
          refine lv_icmp_ge (tgt := 128) hx hb d_Tx_compare_119 (by decide) (fun c6 => ?_) (fun c6 => ?_)
          · replace h := o_tt c6 h
            refine lv_iload hx hb d_Tx_compare_128 (lv_at hl 0 rfl) ?_
            cases h
            exact o_ri C hP hS d_Tx_compare_130
          · replace h := o_ff c6 h
            refine lv_iload hx hb d_Tx_compare_122 (lv_at hl 0 rfl) ?_
            refine lv_ineg hx hb d_Tx_compare_124 ?_
            refine lv_goto (tgt := 130) hx hb d_Tx_compare_125 (by decide) ?_
            cases h
            exact o_ri (v := (-q1)) C hP hS d_Tx_compare_130
        replace h := o_ff c7 h
        refine o_in_ c7 ?_
        intro H locs ls hP hS hl
        refine lv_iconst (v := (0:Int32)) hx hb d_Tx_compare_137 (by decide) ?_
        cases h
        exact o_ri (v := (0:Int32)) C hP hS d_Tx_compare_138
      · replace h := o_ff c3 h
        refine lv_iload hx hb d_Tx_compare_64 (lv_at hl 1 rfl) ?_
        refine lv_iload hx hb d_Tx_compare_66 (lv_at hl 0 rfl) ?_
        refine lv_icmp_ge (tgt := 77) hx hb d_Tx_compare_68 (by decide) (fun c8 => ?_) (fun c8 => ?_)
        · replace h := o_tt c8 h
          refine lv_iload hx hb d_Tx_compare_77 (lv_at hl 2 rfl) ?_
          cases h
          exact o_ri C hP hS d_Tx_compare_79
        · replace h := o_ff c8 h
          refine lv_iload hx hb d_Tx_compare_71 (lv_at hl 2 rfl) ?_
          refine lv_ineg hx hb d_Tx_compare_73 ?_
          refine lv_goto (tgt := 79) hx hb d_Tx_compare_74 (by decide) ?_
          cases h
          exact o_ri (v := (-q1)) C hP hS d_Tx_compare_79
    · replace h := o_tt c2 h
      exact w_Tx_compare_j22_11 hE C hDD n x3 q1 a0 Sj T0 Rd Pg Pt Mk Lk Ck Jd Ld Pr rt h _ _ _ hP hS (lv_sub hl [3, 4, 0] rfl)
