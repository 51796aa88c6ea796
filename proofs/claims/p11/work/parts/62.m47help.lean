theorem k_2_162 : (Jvm.Cond.codeWith ({ cls := "SchemaJudgeLaw", name := "feed", desc := "(LSchemaJudge;IIIII[J)I" } : Jvm.MethodName) method_3_code (8 : Nat) (Option.some Jvm.ClassFile.FieldType.int) [((0 : Nat), (16 : Nat), (19 : Nat), (13 : Nat))]) ∈ o_WS := List.mem_filter.mpr ⟨o_tb2 _ (List.mem_of_getElem? (i := 162) rfl), rfl⟩
theorem k_3_11 : (Jvm.Cond.codeWith ({ cls := "SchemaJudgeLaw", name := "end", desc := "(LSchemaJudge;ZI[J)I" } : Jvm.MethodName) method_4_code (5 : Nat) (Option.some Jvm.ClassFile.FieldType.int) [((0 : Nat), (10 : Nat), (13 : Nat), (13 : Nat)), ((0 : Nat), (10 : Nat), (17 : Nat), (19 : Nat))]) ∈ o_WS := List.mem_filter.mpr ⟨o_tb3 _ (List.mem_of_getElem? (i := 11) rfl), rfl⟩
theorem k_4_11 : (Jvm.Cond.codeWith ({ cls := "SchemaJudgeLaw", name := "check", desc := "(LSchemaJudge;[J)I" } : Jvm.MethodName) method_5_code (3 : Nat) (Option.some Jvm.ClassFile.FieldType.int) [((0 : Nat), (8 : Nat), (11 : Nat), (25 : Nat))]) ∈ o_WS := List.mem_filter.mpr ⟨o_tb4 _ (List.mem_of_getElem? (i := 11) rfl), rfl⟩
theorem k_5_228 : (Jvm.Cond.codeWith ({ cls := "SchemaJudgeLaw", name := "validate", desc := "(LSchemaJudge;[J)I" } : Jvm.MethodName) method_6_code (3 : Nat) (Option.some Jvm.ClassFile.FieldType.int) [((0 : Nat), (15 : Nat), (18 : Nat), (25 : Nat)), ((0 : Nat), (15 : Nat), (21 : Nat), (31 : Nat))]) ∈ o_WS := List.mem_filter.mpr ⟨o_tb5 _ (List.mem_of_getElem? (i := 228) rfl), rfl⟩
theorem k_7_20 : (Jvm.Cond.codeWith ({ cls := "SchemaJudgeLaw", name := "pair", desc := "(LSchemaJudge;IZ[J)I" } : Jvm.MethodName) method_7_code (5 : Nat) (Option.some Jvm.ClassFile.FieldType.int) [((0 : Nat), (10 : Nat), (13 : Nat), (13 : Nat))]) ∈ o_WS := List.mem_filter.mpr ⟨o_tb7 _ (List.mem_of_getElem? (i := 20) rfl), rfl⟩
theorem k_7_36 : (Jvm.Cond.codeWith ({ cls := "SchemaJudgeLaw", name := "value", desc := "(LSchemaJudge;ZII[J)I" } : Jvm.MethodName) method_8_code (6 : Nat) (Option.some Jvm.ClassFile.FieldType.int) [((0 : Nat), (12 : Nat), (15 : Nat), (19 : Nat)), ((0 : Nat), (12 : Nat), (19 : Nat), (13 : Nat))]) ∈ o_WS := List.mem_filter.mpr ⟨o_tb7 _ (List.mem_of_getElem? (i := 36) rfl), rfl⟩
theorem k_7_54 : (Jvm.Cond.codeWith ({ cls := "SchemaJudgeLaw", name := "alike", desc := "(LSchemaJudge;II[J)I" } : Jvm.MethodName) method_9_code (5 : Nat) (Option.some Jvm.ClassFile.FieldType.int) [((0 : Nat), (17 : Nat), (20 : Nat), (13 : Nat))]) ∈ o_WS := List.mem_filter.mpr ⟨o_tb7 _ (List.mem_of_getElem? (i := 54) rfl), rfl⟩
theorem k_7_62 : (Jvm.Cond.codeWith ({ cls := "SchemaJudgeLaw", name := "matches", desc := "(LSchemaJudge;II[J)I" } : Jvm.MethodName) method_10_code (5 : Nat) (Option.some Jvm.ClassFile.FieldType.int) [((0 : Nat), (17 : Nat), (20 : Nat), (13 : Nat)), ((0 : Nat), (17 : Nat), (24 : Nat), (19 : Nat))]) ∈ o_WS := List.mem_filter.mpr ⟨o_tb7 _ (List.mem_of_getElem? (i := 62) rfl), rfl⟩
theorem k_7_74 : (Jvm.Cond.codeWith ({ cls := "SchemaJudgeLaw", name := "count", desc := "(LSchemaJudge;I[J)I" } : Jvm.MethodName) method_11_code (4 : Nat) (Option.some Jvm.ClassFile.FieldType.int) [((0 : Nat), (9 : Nat), (12 : Nat), (19 : Nat))]) ∈ o_WS := List.mem_filter.mpr ⟨o_tb7 _ (List.mem_of_getElem? (i := 74) rfl), rfl⟩
abbrev hh_LW_feed : List (Nat × Nat × Nat × Nat) := [(0, 16, 19, 13)]
abbrev cw_LW_feed : Cond := Cond.codeWith y_LW_feed b_LW_feed 8 (some .int) hh_LW_feed
theorem kw_LW_feed : cw_LW_feed ∈ o_WS := k_2_162
abbrev rm_LW_feed : Room := { frames := 9, cells := 1, slots := 6, locals := 225 }
theorem hs_LW_feed : y_LW_feed.cls ≠ "java/lang/invoke/MethodHandle" ∧ y_LW_feed.cls ≠ "java/lang/invoke/VarHandle" ∧ (parseMethodDescriptor y_LW_feed.desc).map (fun d => d.parameters.length) = some 7 := by decide +kernel
set_option maxHeartbeats 4000000 in
set_option maxRecDepth 100000 in
theorem lh_feed_0 {E : (Nat → Prop) → State → Heap → Prop} {D : va_G} {ad kd sd vd xd : Nat → Nat} {ca : Nat → ClassId} {cO : ClassId} {o : Nat} (hE : o_EK E kd sd vd xd) (hT : o_ET E) (l : Launch) (hfl : l.flags = pinnedFlags ++ [noTraceFlag]) (x1 : Int32) (x2 : Int32) (x3 : Int32) (x4 : Int32) (x5 : Int32) (Sj : SSJ) (T0 : STx) (T1 : STx) (Rd : SRd) (Pg : SPg) (Pt : SPt) (Mk : SMk) (Lk : SLk) (Ck : SCk) (Jd : SJd) (Ld : SLd) (Pr : SPr) (Rd' : SRd) (rt : Nat) (v : Int32) (f : Nat → Int64) (h : m_SJ_feed x1 x2 x3 x4 x5 Rd = some (0, v, Rd')) : o_Cw E l D o_cls ((cO, .long) :: o_tys ca) y_LW_feed cw_LW_feed rm_LW_feed [.ref (ad 0), .int x1, .int x2, .int x3, .int x4, .int x5, .ref o] ((o, .inl (cO, 1, .inr (.inl f))) :: o_cw ad ca rt Sj T0 T1 Rd Pg Pt Mk Lk Ck Jd Ld Pr) ((o, .inl (cO, 1, .inr (.inl (vp_updL f 0 v.toInt64)))) :: o_cw ad ca rt Sj T0 T1 Rd' Pg Pt Mk Lk Ck Jd Ld Pr) (some (.int 0)) := by
  refine o_Cw_of (by decide) (Nat.le_of_ble_eq_true rfl) ?_
  intro p e s m below meth c A ls htab C hD hP hS hl
  have hl : lv_has ls 8 [(0, .ref (ad 0)), (1, .int x1), (2, .int x2), (3, .int x3), (4, .int x4), (5, .int x5), (6, .ref o)] := hl
  have C0 := C
  obtain ⟨hx, hb, -, -, -, hown, hts, hK, hA, -⟩ := C0
  refine lv_aload hx hb d_LW_feed_0 (lv_at hl 6 rfl) ?_
  refine lv_iconst (v := (0:Int32)) hx hb d_LW_feed_2 (by decide) ?_
  refine lv_aload_n hx hb d_LW_feed_3 rfl (lv_at hl 0 rfl) ?_
  refine lv_iload_n hx hb d_LW_feed_4 rfl (lv_at hl 1 rfl) ?_
  refine lv_iload_n hx hb d_LW_feed_5 rfl (lv_at hl 2 rfl) ?_
  refine lv_iload_n hx hb d_LW_feed_6 rfl (lv_at hl 3 rfl) ?_
  refine lv_iload hx hb d_LW_feed_7 (lv_at hl 4 rfl) ?_
  refine lv_iload hx hb d_LW_feed_9 (lv_at hl 5 rfl) ?_
  have hP0 : va_P D o_cls (o_cw ad ca rt Sj T0 T1 Rd Pg Pt Mk Lk Ck Jd Ld Pr) s.heap := hP.sub [1, 2, 3, 4, 5, 6, 7, 8, 9, 10, 11, 12, 13, 14, 15, 16, 17, 18, 19, 20, 21, 22, 23, 24, 25, 26, 27, 28, 29, 30, 31, 32, 33, 34, 35, 36, 37, 38, 39, 40, 41, 42, 43, 44, 45, 46, 47, 48, 49, 50, 51, 52, 53, 54, 55, 56, 57] rfl
  have hD0 : va_D A (o_cw ad ca rt Sj T0 T1 Rd Pg Pt Mk Lk Ck Jd Ld Pr) := hD.sub [1, 2, 3, 4, 5, 6, 7, 8, 9, 10, 11, 12, 13, 14, 15, 16, 17, 18, 19, 20, 21, 22, 23, 24, 25, 26, 27, 28, 29, 30, 31, 32, 33, 34, 35, 36, 37, 38, 39, 40, 41, 42, 43, 44, 45, 46, 47, 48, 49, 50, 51, 52, 53, 54, 55, 56, 57] rfl rfl
  have hK0 : va_K D o_cls (o_tys ca) s := hK.sub [1, 2, 3, 4, 5, 6, 7, 8, 9, 10, 11, 12, 13, 14, 15, 16, 17, 18, 19, 20, 21, 22, 23, 24, 25, 26, 27, 28, 29, 30, 31, 32, 33, 34, 35, 36, 37, 38, 39, 40, 41, 42, 43, 44, 45] rfl
  have hj : ∀ H1 : Heap, va_P D o_cls (o_cw ad ca rt Sj T0 T1 Rd' Pg Pt Mk Lk Ck Jd Ld Pr) H1 → (∀ q : Nat, q < s.heap.size → ¬ va_A (o_cw ad ca rt Sj T0 T1 Rd Pg Pt Mk Lk Ck Jd Ld Pr) s.heap.size q → H1[q]? = s.heap[q]?) → va_P D o_cls ((o, .inl (cO, 1, .inr (.inl f))) :: o_cw ad ca rt Sj T0 T1 Rd' Pg Pt Mk Lk Ck Jd Ld Pr) H1 := fun H1 h1 hk => (va_join (wr := [(o, .inl (cO, 1, .inr (.inl f)))]) hP hD [1, 2, 3, 4, 5, 6, 7, 8, 9, 10, 11, 12, 13, 14, 15, 16, 17, 18, 19, 20, 21, 22, 23, 24, 25, 26, 27, 28, 29, 30, 31, 32, 33, 34, 35, 36, 37, 38, 39, 40, 41, 42, 43, 44, 45, 46, 47, 48, 49, 50, 51, 52, 53, 54, 55, 56, 57] [0] rfl rfl rfl (by decide) hk (va_free hD hS hA [1, 2, 3, 4, 5, 6, 7, 8, 9, 10, 11, 12, 13, 14, 15, 16, 17, 18, 19, 20, 21, 22, 23, 24, 25, 26, 27, 28, 29, 30, 31, 32, 33, 34, 35, 36, 37, 38, 39, 40, 41, 42, 43, 44, 45, 46, 47, 48, 49, 50, 51, 52, 53, 54, 55, 56, 57] rfl) h1 (o_D_map hD0.self rfl)).1
  refine o_VT (rest := [.int (0:Int32), .ref o]) (As := [.int x1, .int x2, .int x3, .int x4, .int x5]) hE.1 C (c_SJ_feed hE hT l hfl x1 x2 x3 x4 x5 Rd Sj T0 T1 Pg Pt Mk Lk Ck Jd Ld Pr rt h) hK0 hP0 hD0 hS hl.1 rfl cw_0 k_2_164 k_2_165 k_2_166 k_1_1 k_2_167 hv_SJ_feed rfl rfl ⟨(Nat.le_of_ble_eq_true rfl), (Nat.le_of_ble_eq_true rfl)⟩ rfl (Nat.le_of_ble_eq_true rfl) ⟨(Nat.le_of_ble_eq_true rfl), (Nat.le_of_ble_eq_true rfl)⟩ d_LW_feed_11 ?_ ?_
  · intro _ H locs hP1 hk hS
    replace hP := hj H hP1 hk
    refine lv_i2l hx hb d_LW_feed_14 rfl ?_
    refine o_last (f := f) (w1 := ((o, .inl (cO, 1, .inr (.inl (vp_updL f 0 v.toInt64)))) :: o_cw ad ca rt Sj T0 T1 Rd' Pg Pt Mk Lk Ck Jd Ld Pr)) C hP (o_D_map hD rfl : va_D A ((o, .inl (cO, 1, .inr (.inl f))) :: o_cw ad ca rt Sj T0 T1 Rd' Pg Pt Mk Lk Ck Jd Ld Pr)) hS 0 0 rfl rfl (show o_in (0:Int32) 1 = true by decide) rfl d_LW_feed_15 (fun H locs hP hS => ?_)
    refine lv_goto (tgt := 23) hx hb d_LW_feed_16 (by decide) ?_
    refine lv_iconst (v := (0:Int32)) hx hb d_LW_feed_23 (by decide) ?_
    exact o_ri C hP hS d_LW_feed_24
  · exact fun hz => absurd (show (0 : Nat) = 0 from rfl) hz
set_option maxHeartbeats 4000000 in
set_option maxRecDepth 100000 in
theorem lh_feed_1 {E : (Nat → Prop) → State → Heap → Prop} {D : va_G} {ad kd sd vd xd : Nat → Nat} {ca : Nat → ClassId} {cO : ClassId} {o : Nat} (hE : o_EK E kd sd vd xd) (hT : o_ET E) (l : Launch) (hfl : l.flags = pinnedFlags ++ [noTraceFlag]) (x1 : Int32) (x2 : Int32) (x3 : Int32) (x4 : Int32) (x5 : Int32) (Sj : SSJ) (T0 : STx) (T1 : STx) (Rd : SRd) (Pg : SPg) (Pt : SPt) (Mk : SMk) (Lk : SLk) (Ck : SCk) (Jd : SJd) (Ld : SLd) (Pr : SPr) (Rd' : SRd) (rt : Nat) (v : Int32) (f : Nat → Int64) (h : m_SJ_feed x1 x2 x3 x4 x5 Rd = some (1, v, Rd')) : o_Cw E l D o_cls ((cO, .long) :: o_tys ca) y_LW_feed cw_LW_feed rm_LW_feed [.ref (ad 0), .int x1, .int x2, .int x3, .int x4, .int x5, .ref o] ((o, .inl (cO, 1, .inr (.inl f))) :: o_cw ad ca rt Sj T0 T1 Rd Pg Pt Mk Lk Ck Jd Ld Pr) ((o, .inl (cO, 1, .inr (.inl f))) :: o_cw ad ca rt Sj T0 T1 Rd' Pg Pt Mk Lk Ck Jd Ld Pr) (some (.int 1)) := by
  refine o_Cw_of (by decide) (Nat.le_of_ble_eq_true rfl) ?_
  intro p e s m below meth c A ls htab C hD hP hS hl
  have hl : lv_has ls 8 [(0, .ref (ad 0)), (1, .int x1), (2, .int x2), (3, .int x3), (4, .int x4), (5, .int x5), (6, .ref o)] := hl
  have C0 := C
  obtain ⟨hx, hb, -, -, -, hown, hts, hK, hA, -⟩ := C0
  refine lv_aload hx hb d_LW_feed_0 (lv_at hl 6 rfl) ?_
  refine lv_iconst (v := (0:Int32)) hx hb d_LW_feed_2 (by decide) ?_
  refine lv_aload_n hx hb d_LW_feed_3 rfl (lv_at hl 0 rfl) ?_
  refine lv_iload_n hx hb d_LW_feed_4 rfl (lv_at hl 1 rfl) ?_
  refine lv_iload_n hx hb d_LW_feed_5 rfl (lv_at hl 2 rfl) ?_
  refine lv_iload_n hx hb d_LW_feed_6 rfl (lv_at hl 3 rfl) ?_
  refine lv_iload hx hb d_LW_feed_7 (lv_at hl 4 rfl) ?_
  refine lv_iload hx hb d_LW_feed_9 (lv_at hl 5 rfl) ?_
  have hP0 : va_P D o_cls (o_cw ad ca rt Sj T0 T1 Rd Pg Pt Mk Lk Ck Jd Ld Pr) s.heap := hP.sub [1, 2, 3, 4, 5, 6, 7, 8, 9, 10, 11, 12, 13, 14, 15, 16, 17, 18, 19, 20, 21, 22, 23, 24, 25, 26, 27, 28, 29, 30, 31, 32, 33, 34, 35, 36, 37, 38, 39, 40, 41, 42, 43, 44, 45, 46, 47, 48, 49, 50, 51, 52, 53, 54, 55, 56, 57] rfl
  have hD0 : va_D A (o_cw ad ca rt Sj T0 T1 Rd Pg Pt Mk Lk Ck Jd Ld Pr) := hD.sub [1, 2, 3, 4, 5, 6, 7, 8, 9, 10, 11, 12, 13, 14, 15, 16, 17, 18, 19, 20, 21, 22, 23, 24, 25, 26, 27, 28, 29, 30, 31, 32, 33, 34, 35, 36, 37, 38, 39, 40, 41, 42, 43, 44, 45, 46, 47, 48, 49, 50, 51, 52, 53, 54, 55, 56, 57] rfl rfl
  have hK0 : va_K D o_cls (o_tys ca) s := hK.sub [1, 2, 3, 4, 5, 6, 7, 8, 9, 10, 11, 12, 13, 14, 15, 16, 17, 18, 19, 20, 21, 22, 23, 24, 25, 26, 27, 28, 29, 30, 31, 32, 33, 34, 35, 36, 37, 38, 39, 40, 41, 42, 43, 44, 45] rfl
  have hj : ∀ H1 : Heap, va_P D o_cls (o_cw ad ca rt Sj T0 T1 Rd' Pg Pt Mk Lk Ck Jd Ld Pr) H1 → (∀ q : Nat, q < s.heap.size → ¬ va_A (o_cw ad ca rt Sj T0 T1 Rd Pg Pt Mk Lk Ck Jd Ld Pr) s.heap.size q → H1[q]? = s.heap[q]?) → va_P D o_cls ((o, .inl (cO, 1, .inr (.inl f))) :: o_cw ad ca rt Sj T0 T1 Rd' Pg Pt Mk Lk Ck Jd Ld Pr) H1 := fun H1 h1 hk => (va_join (wr := [(o, .inl (cO, 1, .inr (.inl f)))]) hP hD [1, 2, 3, 4, 5, 6, 7, 8, 9, 10, 11, 12, 13, 14, 15, 16, 17, 18, 19, 20, 21, 22, 23, 24, 25, 26, 27, 28, 29, 30, 31, 32, 33, 34, 35, 36, 37, 38, 39, 40, 41, 42, 43, 44, 45, 46, 47, 48, 49, 50, 51, 52, 53, 54, 55, 56, 57] [0] rfl rfl rfl (by decide) hk (va_free hD hS hA [1, 2, 3, 4, 5, 6, 7, 8, 9, 10, 11, 12, 13, 14, 15, 16, 17, 18, 19, 20, 21, 22, 23, 24, 25, 26, 27, 28, 29, 30, 31, 32, 33, 34, 35, 36, 37, 38, 39, 40, 41, 42, 43, 44, 45, 46, 47, 48, 49, 50, 51, 52, 53, 54, 55, 56, 57] rfl) h1 (o_D_map hD0.self rfl)).1
  refine o_VT (rest := [.int (0:Int32), .ref o]) (As := [.int x1, .int x2, .int x3, .int x4, .int x5]) hE.1 C (c_SJ_feed hE hT l hfl x1 x2 x3 x4 x5 Rd Sj T0 T1 Pg Pt Mk Lk Ck Jd Ld Pr rt h) hK0 hP0 hD0 hS hl.1 rfl cw_0 k_2_164 k_2_165 k_2_166 k_1_1 k_2_167 hv_SJ_feed rfl rfl ⟨(Nat.le_of_ble_eq_true rfl), (Nat.le_of_ble_eq_true rfl)⟩ rfl (Nat.le_of_ble_eq_true rfl) ⟨(Nat.le_of_ble_eq_true rfl), (Nat.le_of_ble_eq_true rfl)⟩ d_LW_feed_11 ?_ ?_
  · exact fun hz => absurd (show (1 : Nat) = 0 from hz) (by decide)
  · intro hz H locs x cell hP1 hk hS hxc hxv hxf
    replace hP := hj H hP1 hk
    refine o_catch1 (Xn := "java/lang/IndexOutOfBoundsException") hown htab (by decide) (by decide) (by decide) (hts _ k_2_163) (o_dv_cast k_2_173 _ _ hts) hxc hxv hxf ?_
    refine lv_astore (lv' := [(7, .ref x)]) hx hb d_LW_feed_19 (lv_sub hl [] rfl) (by decide) rfl (fun ls hl => ?_)
    refine lv_iconst (v := (1:Int32)) hx hb d_LW_feed_21 (by decide) ?_
    exact o_ri C hP hS d_LW_feed_22
abbrev hh_LW_end : List (Nat × Nat × Nat × Nat) := [(0, 10, 13, 13), (0, 10, 17, 19)]
abbrev cw_LW_end : Cond := Cond.codeWith y_LW_end b_LW_end 5 (some .int) hh_LW_end
theorem kw_LW_end : cw_LW_end ∈ o_WS := k_3_11
abbrev rm_LW_end : Room := { frames := 103, cells := 1, slots := 6, locals := 2585 }
theorem hs_LW_end : y_LW_end.cls ≠ "java/lang/invoke/MethodHandle" ∧ y_LW_end.cls ≠ "java/lang/invoke/VarHandle" ∧ (parseMethodDescriptor y_LW_end.desc).map (fun d => d.parameters.length) = some 4 := by decide +kernel
set_option maxHeartbeats 4000000 in
set_option maxRecDepth 100000 in
theorem lh_end_0 {E : (Nat → Prop) → State → Heap → Prop} {D : va_G} {ad kd sd vd xd : Nat → Nat} {ca : Nat → ClassId} {cO : ClassId} {o : Nat} (hE : o_EK E kd sd vd xd) (hT : o_ET E) (l : Launch) (hfl : l.flags = pinnedFlags ++ [noTraceFlag]) (n : Nat) (x1 : Int32) (x2 : Int32) (Sj : SSJ) (T0 : STx) (T1 : STx) (Rd : SRd) (Pg : SPg) (Pt : SPt) (Mk : SMk) (Lk : SLk) (Ck : SCk) (Jd : SJd) (Ld : SLd) (Pr : SPr) (T0' : STx) (T1' : STx) (Rd' : SRd) (Ck' : SCk) (Sj' : SSJ) (rt : Nat) (rt' : Nat) (v : Int32) (f : Nat → Int64) (h : m_SJ_end n rt x1 x2 T0 T1 Rd Ck Sj = some (0, v, T0', T1', Rd', Ck', Sj', rt')) : o_Cw E l D o_cls ((cO, .long) :: o_tys ca) y_LW_end cw_LW_end rm_LW_end [.ref (ad 0), .int x1, .int x2, .ref o] ((o, .inl (cO, 1, .inr (.inl f))) :: o_cw ad ca rt Sj T0 T1 Rd Pg Pt Mk Lk Ck Jd Ld Pr) ((o, .inl (cO, 1, .inr (.inl (vp_updL f 0 v.toInt64)))) :: o_cw ad ca rt' Sj' T0' T1' Rd' Pg Pt Mk Lk Ck' Jd Ld Pr) (some (.int 0)) := by
  refine o_Cw_of (by decide) (Nat.le_of_ble_eq_true rfl) ?_
  intro p e s m below meth c A ls htab C hD hP hS hl
  have hl : lv_has ls 5 [(0, .ref (ad 0)), (1, .int x1), (2, .int x2), (3, .ref o)] := hl
  have C0 := C
  obtain ⟨hx, hb, -, -, -, hown, hts, hK, hA, -⟩ := C0
  refine lv_aload_n hx hb d_LW_end_0 rfl (lv_at hl 3 rfl) ?_
  refine lv_iconst (v := (0:Int32)) hx hb d_LW_end_1 (by decide) ?_
  refine lv_aload_n hx hb d_LW_end_2 rfl (lv_at hl 0 rfl) ?_
  refine lv_iload_n hx hb d_LW_end_3 rfl (lv_at hl 1 rfl) ?_
  refine lv_iload_n hx hb d_LW_end_4 rfl (lv_at hl 2 rfl) ?_
  have hP0 : va_P D o_cls (o_cw ad ca rt Sj T0 T1 Rd Pg Pt Mk Lk Ck Jd Ld Pr) s.heap := hP.sub [1, 2, 3, 4, 5, 6, 7, 8, 9, 10, 11, 12, 13, 14, 15, 16, 17, 18, 19, 20, 21, 22, 23, 24, 25, 26, 27, 28, 29, 30, 31, 32, 33, 34, 35, 36, 37, 38, 39, 40, 41, 42, 43, 44, 45, 46, 47, 48, 49, 50, 51, 52, 53, 54, 55, 56, 57] rfl
  have hD0 : va_D A (o_cw ad ca rt Sj T0 T1 Rd Pg Pt Mk Lk Ck Jd Ld Pr) := hD.sub [1, 2, 3, 4, 5, 6, 7, 8, 9, 10, 11, 12, 13, 14, 15, 16, 17, 18, 19, 20, 21, 22, 23, 24, 25, 26, 27, 28, 29, 30, 31, 32, 33, 34, 35, 36, 37, 38, 39, 40, 41, 42, 43, 44, 45, 46, 47, 48, 49, 50, 51, 52, 53, 54, 55, 56, 57] rfl rfl
  have hK0 : va_K D o_cls (o_tys ca) s := hK.sub [1, 2, 3, 4, 5, 6, 7, 8, 9, 10, 11, 12, 13, 14, 15, 16, 17, 18, 19, 20, 21, 22, 23, 24, 25, 26, 27, 28, 29, 30, 31, 32, 33, 34, 35, 36, 37, 38, 39, 40, 41, 42, 43, 44, 45] rfl
  have hj : ∀ H1 : Heap, va_P D o_cls (o_cw ad ca rt' Sj' T0' T1' Rd' Pg Pt Mk Lk Ck' Jd Ld Pr) H1 → (∀ q : Nat, q < s.heap.size → ¬ va_A (o_cw ad ca rt Sj T0 T1 Rd Pg Pt Mk Lk Ck Jd Ld Pr) s.heap.size q → H1[q]? = s.heap[q]?) → va_P D o_cls ((o, .inl (cO, 1, .inr (.inl f))) :: o_cw ad ca rt' Sj' T0' T1' Rd' Pg Pt Mk Lk Ck' Jd Ld Pr) H1 := fun H1 h1 hk => (va_join (wr := [(o, .inl (cO, 1, .inr (.inl f)))]) hP hD [1, 2, 3, 4, 5, 6, 7, 8, 9, 10, 11, 12, 13, 14, 15, 16, 17, 18, 19, 20, 21, 22, 23, 24, 25, 26, 27, 28, 29, 30, 31, 32, 33, 34, 35, 36, 37, 38, 39, 40, 41, 42, 43, 44, 45, 46, 47, 48, 49, 50, 51, 52, 53, 54, 55, 56, 57] [0] rfl rfl rfl (by decide) hk (va_free hD hS hA [1, 2, 3, 4, 5, 6, 7, 8, 9, 10, 11, 12, 13, 14, 15, 16, 17, 18, 19, 20, 21, 22, 23, 24, 25, 26, 27, 28, 29, 30, 31, 32, 33, 34, 35, 36, 37, 38, 39, 40, 41, 42, 43, 44, 45, 46, 47, 48, 49, 50, 51, 52, 53, 54, 55, 56, 57] rfl) h1 (o_D_map hD0.self rfl)).1
  refine o_VT (rest := [.int (0:Int32), .ref o]) (As := [.int x1, .int x2]) hE.1 C (c_SJ_end hE hT l hfl n x1 x2 T0 T1 Rd Ck Sj Pg Pt Mk Lk Jd Ld Pr rt h) hK0 hP0 hD0 hS hl.1 rfl cw_0 k_3_13 k_3_14 k_3_15 k_1_1 k_3_16 hv_SJ_end rfl rfl ⟨(Nat.le_of_ble_eq_true rfl), (Nat.le_of_ble_eq_true rfl)⟩ rfl (Nat.le_of_ble_eq_true rfl) ⟨(Nat.le_of_ble_eq_true rfl), (Nat.le_of_ble_eq_true rfl)⟩ d_LW_end_5 ?_ ?_
  · intro _ H locs hP1 hk hS
    replace hP := hj H hP1 hk
    refine lv_i2l hx hb d_LW_end_8 rfl ?_
    refine o_last (f := f) (w1 := ((o, .inl (cO, 1, .inr (.inl (vp_updL f 0 v.toInt64)))) :: o_cw ad ca rt' Sj' T0' T1' Rd' Pg Pt Mk Lk Ck' Jd Ld Pr)) C hP (o_D_map hD rfl : va_D A ((o, .inl (cO, 1, .inr (.inl f))) :: o_cw ad ca rt' Sj' T0' T1' Rd' Pg Pt Mk Lk Ck' Jd Ld Pr)) hS 0 0 rfl rfl (show o_in (0:Int32) 1 = true by decide) rfl d_LW_end_9 (fun H locs hP hS => ?_)
    refine lv_goto (tgt := 21) hx hb d_LW_end_10 (by decide) ?_
    refine lv_iconst (v := (0:Int32)) hx hb d_LW_end_21 (by decide) ?_
    exact o_ri C hP hS d_LW_end_22
  · exact fun hz => absurd (show (0 : Nat) = 0 from rfl) hz
set_option maxHeartbeats 4000000 in
set_option maxRecDepth 100000 in
theorem lh_end_1 {E : (Nat → Prop) → State → Heap → Prop} {D : va_G} {ad kd sd vd xd : Nat → Nat} {ca : Nat → ClassId} {cO : ClassId} {o : Nat} (hE : o_EK E kd sd vd xd) (hT : o_ET E) (l : Launch) (hfl : l.flags = pinnedFlags ++ [noTraceFlag]) (n : Nat) (x1 : Int32) (x2 : Int32) (Sj : SSJ) (T0 : STx) (T1 : STx) (Rd : SRd) (Pg : SPg) (Pt : SPt) (Mk : SMk) (Lk : SLk) (Ck : SCk) (Jd : SJd) (Ld : SLd) (Pr : SPr) (T0' : STx) (T1' : STx) (Rd' : SRd) (Ck' : SCk) (Sj' : SSJ) (rt : Nat) (rt' : Nat) (v : Int32) (f : Nat → Int64) (h : m_SJ_end n rt x1 x2 T0 T1 Rd Ck Sj = some (1, v, T0', T1', Rd', Ck', Sj', rt')) : o_Cw E l D o_cls ((cO, .long) :: o_tys ca) y_LW_end cw_LW_end rm_LW_end [.ref (ad 0), .int x1, .int x2, .ref o] ((o, .inl (cO, 1, .inr (.inl f))) :: o_cw ad ca rt Sj T0 T1 Rd Pg Pt Mk Lk Ck Jd Ld Pr) ((o, .inl (cO, 1, .inr (.inl f))) :: o_cw ad ca rt' Sj' T0' T1' Rd' Pg Pt Mk Lk Ck' Jd Ld Pr) (some (.int 1)) := by
  refine o_Cw_of (by decide) (Nat.le_of_ble_eq_true rfl) ?_
  intro p e s m below meth c A ls htab C hD hP hS hl
  have hl : lv_has ls 5 [(0, .ref (ad 0)), (1, .int x1), (2, .int x2), (3, .ref o)] := hl
  have C0 := C
  obtain ⟨hx, hb, -, -, -, hown, hts, hK, hA, -⟩ := C0
  refine lv_aload_n hx hb d_LW_end_0 rfl (lv_at hl 3 rfl) ?_
  refine lv_iconst (v := (0:Int32)) hx hb d_LW_end_1 (by decide) ?_
  refine lv_aload_n hx hb d_LW_end_2 rfl (lv_at hl 0 rfl) ?_
  refine lv_iload_n hx hb d_LW_end_3 rfl (lv_at hl 1 rfl) ?_
  refine lv_iload_n hx hb d_LW_end_4 rfl (lv_at hl 2 rfl) ?_
  have hP0 : va_P D o_cls (o_cw ad ca rt Sj T0 T1 Rd Pg Pt Mk Lk Ck Jd Ld Pr) s.heap := hP.sub [1, 2, 3, 4, 5, 6, 7, 8, 9, 10, 11, 12, 13, 14, 15, 16, 17, 18, 19, 20, 21, 22, 23, 24, 25, 26, 27, 28, 29, 30, 31, 32, 33, 34, 35, 36, 37, 38, 39, 40, 41, 42, 43, 44, 45, 46, 47, 48, 49, 50, 51, 52, 53, 54, 55, 56, 57] rfl
  have hD0 : va_D A (o_cw ad ca rt Sj T0 T1 Rd Pg Pt Mk Lk Ck Jd Ld Pr) := hD.sub [1, 2, 3, 4, 5, 6, 7, 8, 9, 10, 11, 12, 13, 14, 15, 16, 17, 18, 19, 20, 21, 22, 23, 24, 25, 26, 27, 28, 29, 30, 31, 32, 33, 34, 35, 36, 37, 38, 39, 40, 41, 42, 43, 44, 45, 46, 47, 48, 49, 50, 51, 52, 53, 54, 55, 56, 57] rfl rfl
  have hK0 : va_K D o_cls (o_tys ca) s := hK.sub [1, 2, 3, 4, 5, 6, 7, 8, 9, 10, 11, 12, 13, 14, 15, 16, 17, 18, 19, 20, 21, 22, 23, 24, 25, 26, 27, 28, 29, 30, 31, 32, 33, 34, 35, 36, 37, 38, 39, 40, 41, 42, 43, 44, 45] rfl
  have hj : ∀ H1 : Heap, va_P D o_cls (o_cw ad ca rt' Sj' T0' T1' Rd' Pg Pt Mk Lk Ck' Jd Ld Pr) H1 → (∀ q : Nat, q < s.heap.size → ¬ va_A (o_cw ad ca rt Sj T0 T1 Rd Pg Pt Mk Lk Ck Jd Ld Pr) s.heap.size q → H1[q]? = s.heap[q]?) → va_P D o_cls ((o, .inl (cO, 1, .inr (.inl f))) :: o_cw ad ca rt' Sj' T0' T1' Rd' Pg Pt Mk Lk Ck' Jd Ld Pr) H1 := fun H1 h1 hk => (va_join (wr := [(o, .inl (cO, 1, .inr (.inl f)))]) hP hD [1, 2, 3, 4, 5, 6, 7, 8, 9, 10, 11, 12, 13, 14, 15, 16, 17, 18, 19, 20, 21, 22, 23, 24, 25, 26, 27, 28, 29, 30, 31, 32, 33, 34, 35, 36, 37, 38, 39, 40, 41, 42, 43, 44, 45, 46, 47, 48, 49, 50, 51, 52, 53, 54, 55, 56, 57] [0] rfl rfl rfl (by decide) hk (va_free hD hS hA [1, 2, 3, 4, 5, 6, 7, 8, 9, 10, 11, 12, 13, 14, 15, 16, 17, 18, 19, 20, 21, 22, 23, 24, 25, 26, 27, 28, 29, 30, 31, 32, 33, 34, 35, 36, 37, 38, 39, 40, 41, 42, 43, 44, 45, 46, 47, 48, 49, 50, 51, 52, 53, 54, 55, 56, 57] rfl) h1 (o_D_map hD0.self rfl)).1
  refine o_VT (rest := [.int (0:Int32), .ref o]) (As := [.int x1, .int x2]) hE.1 C (c_SJ_end hE hT l hfl n x1 x2 T0 T1 Rd Ck Sj Pg Pt Mk Lk Jd Ld Pr rt h) hK0 hP0 hD0 hS hl.1 rfl cw_0 k_3_13 k_3_14 k_3_15 k_1_1 k_3_16 hv_SJ_end rfl rfl ⟨(Nat.le_of_ble_eq_true rfl), (Nat.le_of_ble_eq_true rfl)⟩ rfl (Nat.le_of_ble_eq_true rfl) ⟨(Nat.le_of_ble_eq_true rfl), (Nat.le_of_ble_eq_true rfl)⟩ d_LW_end_5 ?_ ?_
  · exact fun hz => absurd (show (1 : Nat) = 0 from hz) (by decide)
  · intro hz H locs x cell hP1 hk hS hxc hxv hxf
    replace hP := hj H hP1 hk
    refine o_catch1 (Xn := "java/lang/IndexOutOfBoundsException") hown htab (by decide) (by decide) (by decide) (hts _ k_2_163) (o_dv_cast k_2_173 _ _ hts) hxc hxv hxf ?_
    refine lv_astore (lv' := [(4, .ref x)]) hx hb d_LW_end_13 (lv_sub hl [] rfl) (by decide) rfl (fun ls hl => ?_)
    refine lv_iconst (v := (1:Int32)) hx hb d_LW_end_15 (by decide) ?_
    exact o_ri C hP hS d_LW_end_16
set_option maxHeartbeats 4000000 in
set_option maxRecDepth 100000 in
theorem lh_end_2 {E : (Nat → Prop) → State → Heap → Prop} {D : va_G} {ad kd sd vd xd : Nat → Nat} {ca : Nat → ClassId} {cO : ClassId} {o : Nat} (hE : o_EK E kd sd vd xd) (hT : o_ET E) (l : Launch) (hfl : l.flags = pinnedFlags ++ [noTraceFlag]) (n : Nat) (x1 : Int32) (x2 : Int32) (Sj : SSJ) (T0 : STx) (T1 : STx) (Rd : SRd) (Pg : SPg) (Pt : SPt) (Mk : SMk) (Lk : SLk) (Ck : SCk) (Jd : SJd) (Ld : SLd) (Pr : SPr) (T0' : STx) (T1' : STx) (Rd' : SRd) (Ck' : SCk) (Sj' : SSJ) (rt : Nat) (rt' : Nat) (v : Int32) (f : Nat → Int64) (h : m_SJ_end n rt x1 x2 T0 T1 Rd Ck Sj = some (2, v, T0', T1', Rd', Ck', Sj', rt')) : o_Cw E l D o_cls ((cO, .long) :: o_tys ca) y_LW_end cw_LW_end rm_LW_end [.ref (ad 0), .int x1, .int x2, .ref o] ((o, .inl (cO, 1, .inr (.inl f))) :: o_cw ad ca rt Sj T0 T1 Rd Pg Pt Mk Lk Ck Jd Ld Pr) ((o, .inl (cO, 1, .inr (.inl f))) :: o_cw ad ca rt' Sj' T0' T1' Rd' Pg Pt Mk Lk Ck' Jd Ld Pr) (some (.int 2)) := by
  refine o_Cw_of (by decide) (Nat.le_of_ble_eq_true rfl) ?_
  intro p e s m below meth c A ls htab C hD hP hS hl
  have hl : lv_has ls 5 [(0, .ref (ad 0)), (1, .int x1), (2, .int x2), (3, .ref o)] := hl
  have C0 := C
  obtain ⟨hx, hb, -, -, -, hown, hts, hK, hA, -⟩ := C0
  refine lv_aload_n hx hb d_LW_end_0 rfl (lv_at hl 3 rfl) ?_
  refine lv_iconst (v := (0:Int32)) hx hb d_LW_end_1 (by decide) ?_
  refine lv_aload_n hx hb d_LW_end_2 rfl (lv_at hl 0 rfl) ?_
  refine lv_iload_n hx hb d_LW_end_3 rfl (lv_at hl 1 rfl) ?_
  refine lv_iload_n hx hb d_LW_end_4 rfl (lv_at hl 2 rfl) ?_
  have hP0 : va_P D o_cls (o_cw ad ca rt Sj T0 T1 Rd Pg Pt Mk Lk Ck Jd Ld Pr) s.heap := hP.sub [1, 2, 3, 4, 5, 6, 7, 8, 9, 10, 11, 12, 13, 14, 15, 16, 17, 18, 19, 20, 21, 22, 23, 24, 25, 26, 27, 28, 29, 30, 31, 32, 33, 34, 35, 36, 37, 38, 39, 40, 41, 42, 43, 44, 45, 46, 47, 48, 49, 50, 51, 52, 53, 54, 55, 56, 57] rfl
  have hD0 : va_D A (o_cw ad ca rt Sj T0 T1 Rd Pg Pt Mk Lk Ck Jd Ld Pr) := hD.sub [1, 2, 3, 4, 5, 6, 7, 8, 9, 10, 11, 12, 13, 14, 15, 16, 17, 18, 19, 20, 21, 22, 23, 24, 25, 26, 27, 28, 29, 30, 31, 32, 33, 34, 35, 36, 37, 38, 39, 40, 41, 42, 43, 44, 45, 46, 47, 48, 49, 50, 51, 52, 53, 54, 55, 56, 57] rfl rfl
  have hK0 : va_K D o_cls (o_tys ca) s := hK.sub [1, 2, 3, 4, 5, 6, 7, 8, 9, 10, 11, 12, 13, 14, 15, 16, 17, 18, 19, 20, 21, 22, 23, 24, 25, 26, 27, 28, 29, 30, 31, 32, 33, 34, 35, 36, 37, 38, 39, 40, 41, 42, 43, 44, 45] rfl
  have hj : ∀ H1 : Heap, va_P D o_cls (o_cw ad ca rt' Sj' T0' T1' Rd' Pg Pt Mk Lk Ck' Jd Ld Pr) H1 → (∀ q : Nat, q < s.heap.size → ¬ va_A (o_cw ad ca rt Sj T0 T1 Rd Pg Pt Mk Lk Ck Jd Ld Pr) s.heap.size q → H1[q]? = s.heap[q]?) → va_P D o_cls ((o, .inl (cO, 1, .inr (.inl f))) :: o_cw ad ca rt' Sj' T0' T1' Rd' Pg Pt Mk Lk Ck' Jd Ld Pr) H1 := fun H1 h1 hk => (va_join (wr := [(o, .inl (cO, 1, .inr (.inl f)))]) hP hD [1, 2, 3, 4, 5, 6, 7, 8, 9, 10, 11, 12, 13, 14, 15, 16, 17, 18, 19, 20, 21, 22, 23, 24, 25, 26, 27, 28, 29, 30, 31, 32, 33, 34, 35, 36, 37, 38, 39, 40, 41, 42, 43, 44, 45, 46, 47, 48, 49, 50, 51, 52, 53, 54, 55, 56, 57] [0] rfl rfl rfl (by decide) hk (va_free hD hS hA [1, 2, 3, 4, 5, 6, 7, 8, 9, 10, 11, 12, 13, 14, 15, 16, 17, 18, 19, 20, 21, 22, 23, 24, 25, 26, 27, 28, 29, 30, 31, 32, 33, 34, 35, 36, 37, 38, 39, 40, 41, 42, 43, 44, 45, 46, 47, 48, 49, 50, 51, 52, 53, 54, 55, 56, 57] rfl) h1 (o_D_map hD0.self rfl)).1
  refine o_VT (rest := [.int (0:Int32), .ref o]) (As := [.int x1, .int x2]) hE.1 C (c_SJ_end hE hT l hfl n x1 x2 T0 T1 Rd Ck Sj Pg Pt Mk Lk Jd Ld Pr rt h) hK0 hP0 hD0 hS hl.1 rfl cw_0 k_3_13 k_3_14 k_3_15 k_1_1 k_3_16 hv_SJ_end rfl rfl ⟨(Nat.le_of_ble_eq_true rfl), (Nat.le_of_ble_eq_true rfl)⟩ rfl (Nat.le_of_ble_eq_true rfl) ⟨(Nat.le_of_ble_eq_true rfl), (Nat.le_of_ble_eq_true rfl)⟩ d_LW_end_5 ?_ ?_
  · exact fun hz => absurd (show (2 : Nat) = 0 from hz) (by decide)
  · intro hz H locs x cell hP1 hk hS hxc hxv hxf
    replace hP := hj H hP1 hk
    refine o_catch2 (Xn := "java/lang/IllegalArgumentException") hown htab (by decide) (by decide) (by decide) (by decide) (by decide) (by decide) (hts _ k_2_163) (hts _ k_3_12) (o_dv_cast k_3_230 _ _ hts) (fun c1 h1 => (hT _ _ _ C.2.2.2.2.2.2.2.2.2).2.2.1 _ _ hxf h1) hxc hxv hxf ?_
    refine lv_astore (lv' := [(4, .ref x)]) hx hb d_LW_end_17 (lv_sub hl [] rfl) (by decide) rfl (fun ls hl => ?_)
    refine lv_iconst (v := (2:Int32)) hx hb d_LW_end_19 (by decide) ?_
    exact o_ri C hP hS d_LW_end_20
abbrev hh_LW_check : List (Nat × Nat × Nat × Nat) := [(0, 8, 11, 25)]
abbrev cw_LW_check : Cond := Cond.codeWith y_LW_check b_LW_check 3 (some .int) hh_LW_check
theorem kw_LW_check : cw_LW_check ∈ o_WS := k_4_11
abbrev rm_LW_check : Room := { frames := 19, cells := 1, slots := 6, locals := 450 }
theorem hs_LW_check : y_LW_check.cls ≠ "java/lang/invoke/MethodHandle" ∧ y_LW_check.cls ≠ "java/lang/invoke/VarHandle" ∧ (parseMethodDescriptor y_LW_check.desc).map (fun d => d.parameters.length) = some 2 := by decide +kernel
set_option maxHeartbeats 4000000 in
set_option maxRecDepth 100000 in
theorem lh_check_0 {E : (Nat → Prop) → State → Heap → Prop} {D : va_G} {ad kd sd vd xd : Nat → Nat} {ca : Nat → ClassId} {cO : ClassId} {o : Nat} (hE : o_EK E kd sd vd xd) (hT : o_ET E) (l : Launch) (hfl : l.flags = pinnedFlags ++ [noTraceFlag]) (n : Nat) (Sj : SSJ) (T0 : STx) (T1 : STx) (Rd : SRd) (Pg : SPg) (Pt : SPt) (Mk : SMk) (Lk : SLk) (Ck : SCk) (Jd : SJd) (Ld : SLd) (Pr : SPr) (Pg' : SPg) (Pt' : SPt) (Mk' : SMk) (Lk' : SLk) (Ck' : SCk) (rt : Nat) (v : Int32) (f : Nat → Int64) (h : m_SJ_check n T0 Pg Pt Mk Lk Ck = some (0, v, Pg', Pt', Mk', Lk', Ck')) : o_Cw E l D o_cls ((cO, .long) :: o_tys ca) y_LW_check cw_LW_check rm_LW_check [.ref (ad 0), .ref o] ((o, .inl (cO, 1, .inr (.inl f))) :: o_cw ad ca rt Sj T0 T1 Rd Pg Pt Mk Lk Ck Jd Ld Pr) ((o, .inl (cO, 1, .inr (.inl (vp_updL f 0 v.toInt64)))) :: o_cw ad ca rt Sj T0 T1 Rd Pg' Pt' Mk' Lk' Ck' Jd Ld Pr) (some (.int 0)) := by
  refine o_Cw_of (by decide) (Nat.le_of_ble_eq_true rfl) ?_
  intro p e s m below meth c A ls htab C hD hP hS hl
  have hl : lv_has ls 3 [(0, .ref (ad 0)), (1, .ref o)] := hl
  have C0 := C
  obtain ⟨hx, hb, -, -, -, hown, hts, hK, hA, -⟩ := C0
  refine lv_aload_n hx hb d_LW_check_0 rfl (lv_at hl 1 rfl) ?_
  refine lv_iconst (v := (0:Int32)) hx hb d_LW_check_1 (by decide) ?_
  refine lv_aload_n hx hb d_LW_check_2 rfl (lv_at hl 0 rfl) ?_
  have hP0 : va_P D o_cls (o_cw ad ca rt Sj T0 T1 Rd Pg Pt Mk Lk Ck Jd Ld Pr) s.heap := hP.sub [1, 2, 3, 4, 5, 6, 7, 8, 9, 10, 11, 12, 13, 14, 15, 16, 17, 18, 19, 20, 21, 22, 23, 24, 25, 26, 27, 28, 29, 30, 31, 32, 33, 34, 35, 36, 37, 38, 39, 40, 41, 42, 43, 44, 45, 46, 47, 48, 49, 50, 51, 52, 53, 54, 55, 56, 57] rfl
  have hD0 : va_D A (o_cw ad ca rt Sj T0 T1 Rd Pg Pt Mk Lk Ck Jd Ld Pr) := hD.sub [1, 2, 3, 4, 5, 6, 7, 8, 9, 10, 11, 12, 13, 14, 15, 16, 17, 18, 19, 20, 21, 22, 23, 24, 25, 26, 27, 28, 29, 30, 31, 32, 33, 34, 35, 36, 37, 38, 39, 40, 41, 42, 43, 44, 45, 46, 47, 48, 49, 50, 51, 52, 53, 54, 55, 56, 57] rfl rfl
  have hK0 : va_K D o_cls (o_tys ca) s := hK.sub [1, 2, 3, 4, 5, 6, 7, 8, 9, 10, 11, 12, 13, 14, 15, 16, 17, 18, 19, 20, 21, 22, 23, 24, 25, 26, 27, 28, 29, 30, 31, 32, 33, 34, 35, 36, 37, 38, 39, 40, 41, 42, 43, 44, 45] rfl
  have hj : ∀ H1 : Heap, va_P D o_cls (o_cw ad ca rt Sj T0 T1 Rd Pg' Pt' Mk' Lk' Ck' Jd Ld Pr) H1 → (∀ q : Nat, q < s.heap.size → ¬ va_A (o_cw ad ca rt Sj T0 T1 Rd Pg Pt Mk Lk Ck Jd Ld Pr) s.heap.size q → H1[q]? = s.heap[q]?) → va_P D o_cls ((o, .inl (cO, 1, .inr (.inl f))) :: o_cw ad ca rt Sj T0 T1 Rd Pg' Pt' Mk' Lk' Ck' Jd Ld Pr) H1 := fun H1 h1 hk => (va_join (wr := [(o, .inl (cO, 1, .inr (.inl f)))]) hP hD [1, 2, 3, 4, 5, 6, 7, 8, 9, 10, 11, 12, 13, 14, 15, 16, 17, 18, 19, 20, 21, 22, 23, 24, 25, 26, 27, 28, 29, 30, 31, 32, 33, 34, 35, 36, 37, 38, 39, 40, 41, 42, 43, 44, 45, 46, 47, 48, 49, 50, 51, 52, 53, 54, 55, 56, 57] [0] rfl rfl rfl (by decide) hk (va_free hD hS hA [1, 2, 3, 4, 5, 6, 7, 8, 9, 10, 11, 12, 13, 14, 15, 16, 17, 18, 19, 20, 21, 22, 23, 24, 25, 26, 27, 28, 29, 30, 31, 32, 33, 34, 35, 36, 37, 38, 39, 40, 41, 42, 43, 44, 45, 46, 47, 48, 49, 50, 51, 52, 53, 54, 55, 56, 57] rfl) h1 (o_D_map hD0.self rfl)).1
  refine o_VT (rest := [.int (0:Int32), .ref o]) (As := []) hE.1 C (c_SJ_check hE hT l hfl n T0 Pg Pt Mk Lk Ck Sj T1 Rd Jd Ld Pr rt h) hK0 hP0 hD0 hS hl.1 rfl cw_0 k_4_13 k_4_14 k_4_15 k_1_1 k_4_16 hv_SJ_check rfl rfl ⟨(Nat.le_of_ble_eq_true rfl), (Nat.le_of_ble_eq_true rfl)⟩ rfl (Nat.le_of_ble_eq_true rfl) ⟨(Nat.le_of_ble_eq_true rfl), (Nat.le_of_ble_eq_true rfl)⟩ d_LW_check_3 ?_ ?_
  · intro _ H locs hP1 hk hS
    replace hP := hj H hP1 hk
    refine lv_i2l hx hb d_LW_check_6 rfl ?_
    refine o_last (f := f) (w1 := ((o, .inl (cO, 1, .inr (.inl (vp_updL f 0 v.toInt64)))) :: o_cw ad ca rt Sj T0 T1 Rd Pg' Pt' Mk' Lk' Ck' Jd Ld Pr)) C hP (o_D_map hD rfl : va_D A ((o, .inl (cO, 1, .inr (.inl f))) :: o_cw ad ca rt Sj T0 T1 Rd Pg' Pt' Mk' Lk' Ck' Jd Ld Pr)) hS 0 0 rfl rfl (show o_in (0:Int32) 1 = true by decide) rfl d_LW_check_7 (fun H locs hP hS => ?_)
    refine lv_goto (tgt := 14) hx hb d_LW_check_8 (by decide) ?_
    refine lv_iconst (v := (0:Int32)) hx hb d_LW_check_14 (by decide) ?_
    exact o_ri C hP hS d_LW_check_15
  · exact fun hz => absurd (show (0 : Nat) = 0 from rfl) hz
set_option maxHeartbeats 4000000 in
set_option maxRecDepth 100000 in
theorem lh_check_3 {E : (Nat → Prop) → State → Heap → Prop} {D : va_G} {ad kd sd vd xd : Nat → Nat} {ca : Nat → ClassId} {cO : ClassId} {o : Nat} (hE : o_EK E kd sd vd xd) (hT : o_ET E) (l : Launch) (hfl : l.flags = pinnedFlags ++ [noTraceFlag]) (n : Nat) (Sj : SSJ) (T0 : STx) (T1 : STx) (Rd : SRd) (Pg : SPg) (Pt : SPt) (Mk : SMk) (Lk : SLk) (Ck : SCk) (Jd : SJd) (Ld : SLd) (Pr : SPr) (Pg' : SPg) (Pt' : SPt) (Mk' : SMk) (Lk' : SLk) (Ck' : SCk) (rt : Nat) (v : Int32) (f : Nat → Int64) (h : m_SJ_check n T0 Pg Pt Mk Lk Ck = some (3, v, Pg', Pt', Mk', Lk', Ck')) : o_Cw E l D o_cls ((cO, .long) :: o_tys ca) y_LW_check cw_LW_check rm_LW_check [.ref (ad 0), .ref o] ((o, .inl (cO, 1, .inr (.inl f))) :: o_cw ad ca rt Sj T0 T1 Rd Pg Pt Mk Lk Ck Jd Ld Pr) ((o, .inl (cO, 1, .inr (.inl f))) :: o_cw ad ca rt Sj T0 T1 Rd Pg' Pt' Mk' Lk' Ck' Jd Ld Pr) (some (.int 1)) := by
  refine o_Cw_of (by decide) (Nat.le_of_ble_eq_true rfl) ?_
  intro p e s m below meth c A ls htab C hD hP hS hl
  have hl : lv_has ls 3 [(0, .ref (ad 0)), (1, .ref o)] := hl
  have C0 := C
  obtain ⟨hx, hb, -, -, -, hown, hts, hK, hA, -⟩ := C0
  refine lv_aload_n hx hb d_LW_check_0 rfl (lv_at hl 1 rfl) ?_
  refine lv_iconst (v := (0:Int32)) hx hb d_LW_check_1 (by decide) ?_
  refine lv_aload_n hx hb d_LW_check_2 rfl (lv_at hl 0 rfl) ?_
  have hP0 : va_P D o_cls (o_cw ad ca rt Sj T0 T1 Rd Pg Pt Mk Lk Ck Jd Ld Pr) s.heap := hP.sub [1, 2, 3, 4, 5, 6, 7, 8, 9, 10, 11, 12, 13, 14, 15, 16, 17, 18, 19, 20, 21, 22, 23, 24, 25, 26, 27, 28, 29, 30, 31, 32, 33, 34, 35, 36, 37, 38, 39, 40, 41, 42, 43, 44, 45, 46, 47, 48, 49, 50, 51, 52, 53, 54, 55, 56, 57] rfl
  have hD0 : va_D A (o_cw ad ca rt Sj T0 T1 Rd Pg Pt Mk Lk Ck Jd Ld Pr) := hD.sub [1, 2, 3, 4, 5, 6, 7, 8, 9, 10, 11, 12, 13, 14, 15, 16, 17, 18, 19, 20, 21, 22, 23, 24, 25, 26, 27, 28, 29, 30, 31, 32, 33, 34, 35, 36, 37, 38, 39, 40, 41, 42, 43, 44, 45, 46, 47, 48, 49, 50, 51, 52, 53, 54, 55, 56, 57] rfl rfl
  have hK0 : va_K D o_cls (o_tys ca) s := hK.sub [1, 2, 3, 4, 5, 6, 7, 8, 9, 10, 11, 12, 13, 14, 15, 16, 17, 18, 19, 20, 21, 22, 23, 24, 25, 26, 27, 28, 29, 30, 31, 32, 33, 34, 35, 36, 37, 38, 39, 40, 41, 42, 43, 44, 45] rfl
  have hj : ∀ H1 : Heap, va_P D o_cls (o_cw ad ca rt Sj T0 T1 Rd Pg' Pt' Mk' Lk' Ck' Jd Ld Pr) H1 → (∀ q : Nat, q < s.heap.size → ¬ va_A (o_cw ad ca rt Sj T0 T1 Rd Pg Pt Mk Lk Ck Jd Ld Pr) s.heap.size q → H1[q]? = s.heap[q]?) → va_P D o_cls ((o, .inl (cO, 1, .inr (.inl f))) :: o_cw ad ca rt Sj T0 T1 Rd Pg' Pt' Mk' Lk' Ck' Jd Ld Pr) H1 := fun H1 h1 hk => (va_join (wr := [(o, .inl (cO, 1, .inr (.inl f)))]) hP hD [1, 2, 3, 4, 5, 6, 7, 8, 9, 10, 11, 12, 13, 14, 15, 16, 17, 18, 19, 20, 21, 22, 23, 24, 25, 26, 27, 28, 29, 30, 31, 32, 33, 34, 35, 36, 37, 38, 39, 40, 41, 42, 43, 44, 45, 46, 47, 48, 49, 50, 51, 52, 53, 54, 55, 56, 57] [0] rfl rfl rfl (by decide) hk (va_free hD hS hA [1, 2, 3, 4, 5, 6, 7, 8, 9, 10, 11, 12, 13, 14, 15, 16, 17, 18, 19, 20, 21, 22, 23, 24, 25, 26, 27, 28, 29, 30, 31, 32, 33, 34, 35, 36, 37, 38, 39, 40, 41, 42, 43, 44, 45, 46, 47, 48, 49, 50, 51, 52, 53, 54, 55, 56, 57] rfl) h1 (o_D_map hD0.self rfl)).1
  refine o_VT (rest := [.int (0:Int32), .ref o]) (As := []) hE.1 C (c_SJ_check hE hT l hfl n T0 Pg Pt Mk Lk Ck Sj T1 Rd Jd Ld Pr rt h) hK0 hP0 hD0 hS hl.1 rfl cw_0 k_4_13 k_4_14 k_4_15 k_1_1 k_4_16 hv_SJ_check rfl rfl ⟨(Nat.le_of_ble_eq_true rfl), (Nat.le_of_ble_eq_true rfl)⟩ rfl (Nat.le_of_ble_eq_true rfl) ⟨(Nat.le_of_ble_eq_true rfl), (Nat.le_of_ble_eq_true rfl)⟩ d_LW_check_3 ?_ ?_
  · exact fun hz => absurd (show (3 : Nat) = 0 from hz) (by decide)
  · intro hz H locs x cell hP1 hk hS hxc hxv hxf
    replace hP := hj H hP1 hk
    refine o_catch1 (Xn := "java/lang/IllegalStateException") hown htab (by decide) (by decide) (by decide) (hts _ k_4_12) (o_dv_cast k_4_18 _ _ hts) hxc hxv hxf ?_
    refine lv_astore_n (lv' := [(2, .ref x)]) hx hb d_LW_check_11 rfl (lv_sub hl [] rfl) (by decide) rfl (fun ls hl => ?_)
    refine lv_iconst (v := (1:Int32)) hx hb d_LW_check_12 (by decide) ?_
    exact o_ri C hP hS d_LW_check_13
abbrev hh_LW_validate : List (Nat × Nat × Nat × Nat) := [(0, 15, 18, 25), (0, 15, 21, 31)]
abbrev cw_LW_validate : Cond := Cond.codeWith y_LW_validate b_LW_validate 3 (some .int) hh_LW_validate
theorem kw_LW_validate : cw_LW_validate ∈ o_WS := k_5_228
abbrev rm_LW_validate : Room := { frames := 260, cells := 1, slots := 6, locals := 8359 }
theorem hs_LW_validate : y_LW_validate.cls ≠ "java/lang/invoke/MethodHandle" ∧ y_LW_validate.cls ≠ "java/lang/invoke/VarHandle" ∧ (parseMethodDescriptor y_LW_validate.desc).map (fun d => d.parameters.length) = some 2 := by decide +kernel
set_option maxHeartbeats 4000000 in
set_option maxRecDepth 100000 in
theorem lh_validate_0 {E : (Nat → Prop) → State → Heap → Prop} {D : va_G} {ad kd sd vd xd : Nat → Nat} {ca : Nat → ClassId} {cO : ClassId} {o : Nat} (hE : o_EK E kd sd vd xd) (hT : o_ET E) (l : Launch) (hfl : l.flags = pinnedFlags ++ [noTraceFlag]) (n : Nat) (Sj : SSJ) (T0 : STx) (T1 : STx) (Rd : SRd) (Pg : SPg) (Pt : SPt) (Mk : SMk) (Lk : SLk) (Ck : SCk) (Jd : SJd) (Ld : SLd) (Pr : SPr) (Pg' : SPg) (Pt' : SPt) (Ld' : SLd) (Pr' : SPr) (Jd' : SJd) (rt : Nat) (v : Int32) (f : Nat → Int64) (h : m_SJ_validate n T0 T1 Pg Pt Mk Ck Ld Pr Jd = some (0, v, Pg', Pt', Ld', Pr', Jd')) : o_Cw E l D o_cls ((cO, .long) :: o_tys ca) y_LW_validate cw_LW_validate rm_LW_validate [.ref (ad 0), .ref o] ((o, .inl (cO, 1, .inr (.inl f))) :: o_cw ad ca rt Sj T0 T1 Rd Pg Pt Mk Lk Ck Jd Ld Pr) ((o, .inl (cO, 1, .inr (.inl (vp_updL f 0 (if v = 0 then 0 else 1))))) :: o_cw ad ca rt Sj T0 T1 Rd Pg' Pt' Mk Lk Ck Jd' Ld' Pr') (some (.int 0)) := by
  refine o_Cw_of (by decide) (Nat.le_of_ble_eq_true rfl) ?_
  intro p e s m below meth c A ls htab C hD hP hS hl
  have hl : lv_has ls 3 [(0, .ref (ad 0)), (1, .ref o)] := hl
  have C0 := C
  obtain ⟨hx, hb, -, -, -, hown, hts, hK, hA, -⟩ := C0
  refine lv_aload_n hx hb d_LW_validate_0 rfl (lv_at hl 1 rfl) ?_
  refine lv_iconst (v := (0:Int32)) hx hb d_LW_validate_1 (by decide) ?_
  refine lv_aload_n hx hb d_LW_validate_2 rfl (lv_at hl 0 rfl) ?_
  have hP0 : va_P D o_cls (o_cw ad ca rt Sj T0 T1 Rd Pg Pt Mk Lk Ck Jd Ld Pr) s.heap := hP.sub [1, 2, 3, 4, 5, 6, 7, 8, 9, 10, 11, 12, 13, 14, 15, 16, 17, 18, 19, 20, 21, 22, 23, 24, 25, 26, 27, 28, 29, 30, 31, 32, 33, 34, 35, 36, 37, 38, 39, 40, 41, 42, 43, 44, 45, 46, 47, 48, 49, 50, 51, 52, 53, 54, 55, 56, 57] rfl
  have hD0 : va_D A (o_cw ad ca rt Sj T0 T1 Rd Pg Pt Mk Lk Ck Jd Ld Pr) := hD.sub [1, 2, 3, 4, 5, 6, 7, 8, 9, 10, 11, 12, 13, 14, 15, 16, 17, 18, 19, 20, 21, 22, 23, 24, 25, 26, 27, 28, 29, 30, 31, 32, 33, 34, 35, 36, 37, 38, 39, 40, 41, 42, 43, 44, 45, 46, 47, 48, 49, 50, 51, 52, 53, 54, 55, 56, 57] rfl rfl
  have hK0 : va_K D o_cls (o_tys ca) s := hK.sub [1, 2, 3, 4, 5, 6, 7, 8, 9, 10, 11, 12, 13, 14, 15, 16, 17, 18, 19, 20, 21, 22, 23, 24, 25, 26, 27, 28, 29, 30, 31, 32, 33, 34, 35, 36, 37, 38, 39, 40, 41, 42, 43, 44, 45] rfl
  have hj : ∀ H1 : Heap, va_P D o_cls (o_cw ad ca rt Sj T0 T1 Rd Pg' Pt' Mk Lk Ck Jd' Ld' Pr') H1 → (∀ q : Nat, q < s.heap.size → ¬ va_A (o_cw ad ca rt Sj T0 T1 Rd Pg Pt Mk Lk Ck Jd Ld Pr) s.heap.size q → H1[q]? = s.heap[q]?) → va_P D o_cls ((o, .inl (cO, 1, .inr (.inl f))) :: o_cw ad ca rt Sj T0 T1 Rd Pg' Pt' Mk Lk Ck Jd' Ld' Pr') H1 := fun H1 h1 hk => (va_join (wr := [(o, .inl (cO, 1, .inr (.inl f)))]) hP hD [1, 2, 3, 4, 5, 6, 7, 8, 9, 10, 11, 12, 13, 14, 15, 16, 17, 18, 19, 20, 21, 22, 23, 24, 25, 26, 27, 28, 29, 30, 31, 32, 33, 34, 35, 36, 37, 38, 39, 40, 41, 42, 43, 44, 45, 46, 47, 48, 49, 50, 51, 52, 53, 54, 55, 56, 57] [0] rfl rfl rfl (by decide) hk (va_free hD hS hA [1, 2, 3, 4, 5, 6, 7, 8, 9, 10, 11, 12, 13, 14, 15, 16, 17, 18, 19, 20, 21, 22, 23, 24, 25, 26, 27, 28, 29, 30, 31, 32, 33, 34, 35, 36, 37, 38, 39, 40, 41, 42, 43, 44, 45, 46, 47, 48, 49, 50, 51, 52, 53, 54, 55, 56, 57] rfl) h1 (o_D_map hD0.self rfl)).1
  refine o_VT (rest := [.int (0:Int32), .ref o]) (As := []) hE.1 C (c_SJ_validate hE hT l hfl n T0 T1 Pg Pt Mk Ck Ld Pr Jd Sj Rd Lk rt h) hK0 hP0 hD0 hS hl.1 rfl cw_0 k_5_230 k_5_231 k_5_232 k_1_1 k_5_233 hv_SJ_validate rfl rfl ⟨(Nat.le_of_ble_eq_true rfl), (Nat.le_of_ble_eq_true rfl)⟩ rfl (Nat.le_of_ble_eq_true rfl) ⟨(Nat.le_of_ble_eq_true rfl), (Nat.le_of_ble_eq_true rfl)⟩ d_LW_validate_3 ?_ ?_
  · intro _ H locs hP1 hk hS
    replace hP := hj H hP1 hk
    refine lv_if_eq (tgt := 13) hx hb d_LW_validate_6 (by decide) (fun cc => ?_) (fun cc => ?_)
    · replace hP := hP
      refine lv_lconst (v := (0:Int64)) hx hb d_LW_validate_13 (by decide) ?_
      rw [if_pos cc]
      refine o_last (f := f) (w1 := ((o, .inl (cO, 1, .inr (.inl (vp_updL f 0 (0:Int64))))) :: o_cw ad ca rt Sj T0 T1 Rd Pg' Pt' Mk Lk Ck Jd' Ld' Pr')) C hP (o_D_map hD rfl : va_D A ((o, .inl (cO, 1, .inr (.inl f))) :: o_cw ad ca rt Sj T0 T1 Rd Pg' Pt' Mk Lk Ck Jd' Ld' Pr')) hS 0 0 rfl rfl (show o_in (0:Int32) 1 = true by decide) rfl d_LW_validate_14 (fun H locs hP hS => ?_)
      refine lv_goto (tgt := 24) hx hb d_LW_validate_15 (by decide) ?_
      refine lv_iconst (v := (0:Int32)) hx hb d_LW_validate_24 (by decide) ?_
      exact o_ri C hP hS d_LW_validate_25
    · replace hP := hP
      refine lv_lconst (v := (1:Int64)) hx hb d_LW_validate_9 (by decide) ?_
      refine lv_goto (tgt := 14) hx hb d_LW_validate_10 (by decide) ?_
      rw [if_neg cc]
      refine o_last (f := f) (w1 := ((o, .inl (cO, 1, .inr (.inl (vp_updL f 0 (1:Int64))))) :: o_cw ad ca rt Sj T0 T1 Rd Pg' Pt' Mk Lk Ck Jd' Ld' Pr')) C hP (o_D_map hD rfl : va_D A ((o, .inl (cO, 1, .inr (.inl f))) :: o_cw ad ca rt Sj T0 T1 Rd Pg' Pt' Mk Lk Ck Jd' Ld' Pr')) hS 0 0 rfl rfl (show o_in (0:Int32) 1 = true by decide) rfl d_LW_validate_14 (fun H locs hP hS => ?_)
      refine lv_goto (tgt := 24) hx hb d_LW_validate_15 (by decide) ?_
      refine lv_iconst (v := (0:Int32)) hx hb d_LW_validate_24 (by decide) ?_
      exact o_ri C hP hS d_LW_validate_25
  · exact fun hz => absurd (show (0 : Nat) = 0 from rfl) hz
set_option maxHeartbeats 4000000 in
set_option maxRecDepth 100000 in
theorem lh_validate_3 {E : (Nat → Prop) → State → Heap → Prop} {D : va_G} {ad kd sd vd xd : Nat → Nat} {ca : Nat → ClassId} {cO : ClassId} {o : Nat} (hE : o_EK E kd sd vd xd) (hT : o_ET E) (l : Launch) (hfl : l.flags = pinnedFlags ++ [noTraceFlag]) (n : Nat) (Sj : SSJ) (T0 : STx) (T1 : STx) (Rd : SRd) (Pg : SPg) (Pt : SPt) (Mk : SMk) (Lk : SLk) (Ck : SCk) (Jd : SJd) (Ld : SLd) (Pr : SPr) (Pg' : SPg) (Pt' : SPt) (Ld' : SLd) (Pr' : SPr) (Jd' : SJd) (rt : Nat) (v : Int32) (f : Nat → Int64) (h : m_SJ_validate n T0 T1 Pg Pt Mk Ck Ld Pr Jd = some (3, v, Pg', Pt', Ld', Pr', Jd')) : o_Cw E l D o_cls ((cO, .long) :: o_tys ca) y_LW_validate cw_LW_validate rm_LW_validate [.ref (ad 0), .ref o] ((o, .inl (cO, 1, .inr (.inl f))) :: o_cw ad ca rt Sj T0 T1 Rd Pg Pt Mk Lk Ck Jd Ld Pr) ((o, .inl (cO, 1, .inr (.inl f))) :: o_cw ad ca rt Sj T0 T1 Rd Pg' Pt' Mk Lk Ck Jd' Ld' Pr') (some (.int 1)) := by
  refine o_Cw_of (by decide) (Nat.le_of_ble_eq_true rfl) ?_
  intro p e s m below meth c A ls htab C hD hP hS hl
  have hl : lv_has ls 3 [(0, .ref (ad 0)), (1, .ref o)] := hl
  have C0 := C
  obtain ⟨hx, hb, -, -, -, hown, hts, hK, hA, -⟩ := C0
  refine lv_aload_n hx hb d_LW_validate_0 rfl (lv_at hl 1 rfl) ?_
  refine lv_iconst (v := (0:Int32)) hx hb d_LW_validate_1 (by decide) ?_
  refine lv_aload_n hx hb d_LW_validate_2 rfl (lv_at hl 0 rfl) ?_
  have hP0 : va_P D o_cls (o_cw ad ca rt Sj T0 T1 Rd Pg Pt Mk Lk Ck Jd Ld Pr) s.heap := hP.sub [1, 2, 3, 4, 5, 6, 7, 8, 9, 10, 11, 12, 13, 14, 15, 16, 17, 18, 19, 20, 21, 22, 23, 24, 25, 26, 27, 28, 29, 30, 31, 32, 33, 34, 35, 36, 37, 38, 39, 40, 41, 42, 43, 44, 45, 46, 47, 48, 49, 50, 51, 52, 53, 54, 55, 56, 57] rfl
  have hD0 : va_D A (o_cw ad ca rt Sj T0 T1 Rd Pg Pt Mk Lk Ck Jd Ld Pr) := hD.sub [1, 2, 3, 4, 5, 6, 7, 8, 9, 10, 11, 12, 13, 14, 15, 16, 17, 18, 19, 20, 21, 22, 23, 24, 25, 26, 27, 28, 29, 30, 31, 32, 33, 34, 35, 36, 37, 38, 39, 40, 41, 42, 43, 44, 45, 46, 47, 48, 49, 50, 51, 52, 53, 54, 55, 56, 57] rfl rfl
  have hK0 : va_K D o_cls (o_tys ca) s := hK.sub [1, 2, 3, 4, 5, 6, 7, 8, 9, 10, 11, 12, 13, 14, 15, 16, 17, 18, 19, 20, 21, 22, 23, 24, 25, 26, 27, 28, 29, 30, 31, 32, 33, 34, 35, 36, 37, 38, 39, 40, 41, 42, 43, 44, 45] rfl
  have hj : ∀ H1 : Heap, va_P D o_cls (o_cw ad ca rt Sj T0 T1 Rd Pg' Pt' Mk Lk Ck Jd' Ld' Pr') H1 → (∀ q : Nat, q < s.heap.size → ¬ va_A (o_cw ad ca rt Sj T0 T1 Rd Pg Pt Mk Lk Ck Jd Ld Pr) s.heap.size q → H1[q]? = s.heap[q]?) → va_P D o_cls ((o, .inl (cO, 1, .inr (.inl f))) :: o_cw ad ca rt Sj T0 T1 Rd Pg' Pt' Mk Lk Ck Jd' Ld' Pr') H1 := fun H1 h1 hk => (va_join (wr := [(o, .inl (cO, 1, .inr (.inl f)))]) hP hD [1, 2, 3, 4, 5, 6, 7, 8, 9, 10, 11, 12, 13, 14, 15, 16, 17, 18, 19, 20, 21, 22, 23, 24, 25, 26, 27, 28, 29, 30, 31, 32, 33, 34, 35, 36, 37, 38, 39, 40, 41, 42, 43, 44, 45, 46, 47, 48, 49, 50, 51, 52, 53, 54, 55, 56, 57] [0] rfl rfl rfl (by decide) hk (va_free hD hS hA [1, 2, 3, 4, 5, 6, 7, 8, 9, 10, 11, 12, 13, 14, 15, 16, 17, 18, 19, 20, 21, 22, 23, 24, 25, 26, 27, 28, 29, 30, 31, 32, 33, 34, 35, 36, 37, 38, 39, 40, 41, 42, 43, 44, 45, 46, 47, 48, 49, 50, 51, 52, 53, 54, 55, 56, 57] rfl) h1 (o_D_map hD0.self rfl)).1
  refine o_VT (rest := [.int (0:Int32), .ref o]) (As := []) hE.1 C (c_SJ_validate hE hT l hfl n T0 T1 Pg Pt Mk Ck Ld Pr Jd Sj Rd Lk rt h) hK0 hP0 hD0 hS hl.1 rfl cw_0 k_5_230 k_5_231 k_5_232 k_1_1 k_5_233 hv_SJ_validate rfl rfl ⟨(Nat.le_of_ble_eq_true rfl), (Nat.le_of_ble_eq_true rfl)⟩ rfl (Nat.le_of_ble_eq_true rfl) ⟨(Nat.le_of_ble_eq_true rfl), (Nat.le_of_ble_eq_true rfl)⟩ d_LW_validate_3 ?_ ?_
  · exact fun hz => absurd (show (3 : Nat) = 0 from hz) (by decide)
  · intro hz H locs x cell hP1 hk hS hxc hxv hxf
    replace hP := hj H hP1 hk
    refine o_catch1 (Xn := "java/lang/IllegalStateException") hown htab (by decide) (by decide) (by decide) (hts _ k_4_12) (o_dv_cast k_4_18 _ _ hts) hxc hxv hxf ?_
    refine lv_astore_n (lv' := [(2, .ref x)]) hx hb d_LW_validate_18 rfl (lv_sub hl [] rfl) (by decide) rfl (fun ls hl => ?_)
    refine lv_iconst (v := (1:Int32)) hx hb d_LW_validate_19 (by decide) ?_
    exact o_ri C hP hS d_LW_validate_20
set_option maxHeartbeats 4000000 in
set_option maxRecDepth 100000 in
theorem lh_validate_4 {E : (Nat → Prop) → State → Heap → Prop} {D : va_G} {ad kd sd vd xd : Nat → Nat} {ca : Nat → ClassId} {cO : ClassId} {o : Nat} (hE : o_EK E kd sd vd xd) (hT : o_ET E) (l : Launch) (hfl : l.flags = pinnedFlags ++ [noTraceFlag]) (n : Nat) (Sj : SSJ) (T0 : STx) (T1 : STx) (Rd : SRd) (Pg : SPg) (Pt : SPt) (Mk : SMk) (Lk : SLk) (Ck : SCk) (Jd : SJd) (Ld : SLd) (Pr : SPr) (Pg' : SPg) (Pt' : SPt) (Ld' : SLd) (Pr' : SPr) (Jd' : SJd) (rt : Nat) (v : Int32) (f : Nat → Int64) (h : m_SJ_validate n T0 T1 Pg Pt Mk Ck Ld Pr Jd = some (4, v, Pg', Pt', Ld', Pr', Jd')) : o_Cw E l D o_cls ((cO, .long) :: o_tys ca) y_LW_validate cw_LW_validate rm_LW_validate [.ref (ad 0), .ref o] ((o, .inl (cO, 1, .inr (.inl f))) :: o_cw ad ca rt Sj T0 T1 Rd Pg Pt Mk Lk Ck Jd Ld Pr) ((o, .inl (cO, 1, .inr (.inl f))) :: o_cw ad ca rt Sj T0 T1 Rd Pg' Pt' Mk Lk Ck Jd' Ld' Pr') (some (.int 2)) := by
  refine o_Cw_of (by decide) (Nat.le_of_ble_eq_true rfl) ?_
  intro p e s m below meth c A ls htab C hD hP hS hl
  have hl : lv_has ls 3 [(0, .ref (ad 0)), (1, .ref o)] := hl
  have C0 := C
  obtain ⟨hx, hb, -, -, -, hown, hts, hK, hA, -⟩ := C0
  refine lv_aload_n hx hb d_LW_validate_0 rfl (lv_at hl 1 rfl) ?_
  refine lv_iconst (v := (0:Int32)) hx hb d_LW_validate_1 (by decide) ?_
  refine lv_aload_n hx hb d_LW_validate_2 rfl (lv_at hl 0 rfl) ?_
  have hP0 : va_P D o_cls (o_cw ad ca rt Sj T0 T1 Rd Pg Pt Mk Lk Ck Jd Ld Pr) s.heap := hP.sub [1, 2, 3, 4, 5, 6, 7, 8, 9, 10, 11, 12, 13, 14, 15, 16, 17, 18, 19, 20, 21, 22, 23, 24, 25, 26, 27, 28, 29, 30, 31, 32, 33, 34, 35, 36, 37, 38, 39, 40, 41, 42, 43, 44, 45, 46, 47, 48, 49, 50, 51, 52, 53, 54, 55, 56, 57] rfl
  have hD0 : va_D A (o_cw ad ca rt Sj T0 T1 Rd Pg Pt Mk Lk Ck Jd Ld Pr) := hD.sub [1, 2, 3, 4, 5, 6, 7, 8, 9, 10, 11, 12, 13, 14, 15, 16, 17, 18, 19, 20, 21, 22, 23, 24, 25, 26, 27, 28, 29, 30, 31, 32, 33, 34, 35, 36, 37, 38, 39, 40, 41, 42, 43, 44, 45, 46, 47, 48, 49, 50, 51, 52, 53, 54, 55, 56, 57] rfl rfl
  have hK0 : va_K D o_cls (o_tys ca) s := hK.sub [1, 2, 3, 4, 5, 6, 7, 8, 9, 10, 11, 12, 13, 14, 15, 16, 17, 18, 19, 20, 21, 22, 23, 24, 25, 26, 27, 28, 29, 30, 31, 32, 33, 34, 35, 36, 37, 38, 39, 40, 41, 42, 43, 44, 45] rfl
  have hj : ∀ H1 : Heap, va_P D o_cls (o_cw ad ca rt Sj T0 T1 Rd Pg' Pt' Mk Lk Ck Jd' Ld' Pr') H1 → (∀ q : Nat, q < s.heap.size → ¬ va_A (o_cw ad ca rt Sj T0 T1 Rd Pg Pt Mk Lk Ck Jd Ld Pr) s.heap.size q → H1[q]? = s.heap[q]?) → va_P D o_cls ((o, .inl (cO, 1, .inr (.inl f))) :: o_cw ad ca rt Sj T0 T1 Rd Pg' Pt' Mk Lk Ck Jd' Ld' Pr') H1 := fun H1 h1 hk => (va_join (wr := [(o, .inl (cO, 1, .inr (.inl f)))]) hP hD [1, 2, 3, 4, 5, 6, 7, 8, 9, 10, 11, 12, 13, 14, 15, 16, 17, 18, 19, 20, 21, 22, 23, 24, 25, 26, 27, 28, 29, 30, 31, 32, 33, 34, 35, 36, 37, 38, 39, 40, 41, 42, 43, 44, 45, 46, 47, 48, 49, 50, 51, 52, 53, 54, 55, 56, 57] [0] rfl rfl rfl (by decide) hk (va_free hD hS hA [1, 2, 3, 4, 5, 6, 7, 8, 9, 10, 11, 12, 13, 14, 15, 16, 17, 18, 19, 20, 21, 22, 23, 24, 25, 26, 27, 28, 29, 30, 31, 32, 33, 34, 35, 36, 37, 38, 39, 40, 41, 42, 43, 44, 45, 46, 47, 48, 49, 50, 51, 52, 53, 54, 55, 56, 57] rfl) h1 (o_D_map hD0.self rfl)).1
  refine o_VT (rest := [.int (0:Int32), .ref o]) (As := []) hE.1 C (c_SJ_validate hE hT l hfl n T0 T1 Pg Pt Mk Ck Ld Pr Jd Sj Rd Lk rt h) hK0 hP0 hD0 hS hl.1 rfl cw_0 k_5_230 k_5_231 k_5_232 k_1_1 k_5_233 hv_SJ_validate rfl rfl ⟨(Nat.le_of_ble_eq_true rfl), (Nat.le_of_ble_eq_true rfl)⟩ rfl (Nat.le_of_ble_eq_true rfl) ⟨(Nat.le_of_ble_eq_true rfl), (Nat.le_of_ble_eq_true rfl)⟩ d_LW_validate_3 ?_ ?_
  · exact fun hz => absurd (show (4 : Nat) = 0 from hz) (by decide)
  · intro hz H locs x cell hP1 hk hS hxc hxv hxf
    replace hP := hj H hP1 hk
    refine o_catch2 (Xn := "java/lang/UnsupportedOperationException") hown htab (by decide) (by decide) (by decide) (by decide) (by decide) (by decide) (hts _ k_4_12) (hts _ k_5_229) (o_dv_cast k_7_3 _ _ hts) (fun c1 h1 => (hT _ _ _ C.2.2.2.2.2.2.2.2.2).2.2.2.2 _ _ hxf h1) hxc hxv hxf ?_
    refine lv_astore_n (lv' := [(2, .ref x)]) hx hb d_LW_validate_21 rfl (lv_sub hl [] rfl) (by decide) rfl (fun ls hl => ?_)
    refine lv_iconst (v := (2:Int32)) hx hb d_LW_validate_22 (by decide) ?_
    exact o_ri C hP hS d_LW_validate_23
abbrev hh_LW_pair : List (Nat × Nat × Nat × Nat) := [(0, 10, 13, 13)]
abbrev cw_LW_pair : Cond := Cond.codeWith y_LW_pair b_LW_pair 5 (some .int) hh_LW_pair
theorem kw_LW_pair : cw_LW_pair ∈ o_WS := k_7_20
abbrev rm_LW_pair : Room := { frames := 9, cells := 1, slots := 6, locals := 222 }
theorem hs_LW_pair : y_LW_pair.cls ≠ "java/lang/invoke/MethodHandle" ∧ y_LW_pair.cls ≠ "java/lang/invoke/VarHandle" ∧ (parseMethodDescriptor y_LW_pair.desc).map (fun d => d.parameters.length) = some 4 := by decide +kernel
set_option maxHeartbeats 4000000 in
set_option maxRecDepth 100000 in
theorem lh_pair_0 {E : (Nat → Prop) → State → Heap → Prop} {D : va_G} {ad kd sd vd xd : Nat → Nat} {ca : Nat → ClassId} {cO : ClassId} {o : Nat} (hE : o_EK E kd sd vd xd) (hT : o_ET E) (l : Launch) (hfl : l.flags = pinnedFlags ++ [noTraceFlag]) (x1 : Int32) (x2 : Int32) (Sj : SSJ) (T0 : STx) (T1 : STx) (Rd : SRd) (Pg : SPg) (Pt : SPt) (Mk : SMk) (Lk : SLk) (Ck : SCk) (Jd : SJd) (Ld : SLd) (Pr : SPr) (rt : Nat) (v : Int32) (f : Nat → Int64) (h : m_SJ_pair x1 x2 Pr = some (0, v)) : o_Cw E l D o_cls ((cO, .long) :: o_tys ca) y_LW_pair cw_LW_pair rm_LW_pair [.ref (ad 0), .int x1, .int x2, .ref o] ((o, .inl (cO, 1, .inr (.inl f))) :: o_cw ad ca rt Sj T0 T1 Rd Pg Pt Mk Lk Ck Jd Ld Pr) ((o, .inl (cO, 1, .inr (.inl (vp_updL f 0 v.toInt64)))) :: o_cw ad ca rt Sj T0 T1 Rd Pg Pt Mk Lk Ck Jd Ld Pr) (some (.int 0)) := by
  refine o_Cw_of (by decide) (Nat.le_of_ble_eq_true rfl) ?_
  intro p e s m below meth c A ls htab C hD hP hS hl
  have hl : lv_has ls 5 [(0, .ref (ad 0)), (1, .int x1), (2, .int x2), (3, .ref o)] := hl
  have C0 := C
  obtain ⟨hx, hb, -, -, -, hown, hts, hK, hA, -⟩ := C0
  refine lv_aload_n hx hb d_LW_pair_0 rfl (lv_at hl 3 rfl) ?_
  refine lv_iconst (v := (0:Int32)) hx hb d_LW_pair_1 (by decide) ?_
  refine lv_aload_n hx hb d_LW_pair_2 rfl (lv_at hl 0 rfl) ?_
  refine lv_iload_n hx hb d_LW_pair_3 rfl (lv_at hl 1 rfl) ?_
  refine lv_iload_n hx hb d_LW_pair_4 rfl (lv_at hl 2 rfl) ?_
  have hP0 : va_P D o_cls (o_cw ad ca rt Sj T0 T1 Rd Pg Pt Mk Lk Ck Jd Ld Pr) s.heap := hP.sub [1, 2, 3, 4, 5, 6, 7, 8, 9, 10, 11, 12, 13, 14, 15, 16, 17, 18, 19, 20, 21, 22, 23, 24, 25, 26, 27, 28, 29, 30, 31, 32, 33, 34, 35, 36, 37, 38, 39, 40, 41, 42, 43, 44, 45, 46, 47, 48, 49, 50, 51, 52, 53, 54, 55, 56, 57] rfl
  have hD0 : va_D A (o_cw ad ca rt Sj T0 T1 Rd Pg Pt Mk Lk Ck Jd Ld Pr) := hD.sub [1, 2, 3, 4, 5, 6, 7, 8, 9, 10, 11, 12, 13, 14, 15, 16, 17, 18, 19, 20, 21, 22, 23, 24, 25, 26, 27, 28, 29, 30, 31, 32, 33, 34, 35, 36, 37, 38, 39, 40, 41, 42, 43, 44, 45, 46, 47, 48, 49, 50, 51, 52, 53, 54, 55, 56, 57] rfl rfl
  have hK0 : va_K D o_cls (o_tys ca) s := hK.sub [1, 2, 3, 4, 5, 6, 7, 8, 9, 10, 11, 12, 13, 14, 15, 16, 17, 18, 19, 20, 21, 22, 23, 24, 25, 26, 27, 28, 29, 30, 31, 32, 33, 34, 35, 36, 37, 38, 39, 40, 41, 42, 43, 44, 45] rfl
  have hj : ∀ H1 : Heap, va_P D o_cls (o_cw ad ca rt Sj T0 T1 Rd Pg Pt Mk Lk Ck Jd Ld Pr) H1 → (∀ q : Nat, q < s.heap.size → ¬ va_A (o_cw ad ca rt Sj T0 T1 Rd Pg Pt Mk Lk Ck Jd Ld Pr) s.heap.size q → H1[q]? = s.heap[q]?) → va_P D o_cls ((o, .inl (cO, 1, .inr (.inl f))) :: o_cw ad ca rt Sj T0 T1 Rd Pg Pt Mk Lk Ck Jd Ld Pr) H1 := fun H1 h1 hk => (va_join (wr := [(o, .inl (cO, 1, .inr (.inl f)))]) hP hD [1, 2, 3, 4, 5, 6, 7, 8, 9, 10, 11, 12, 13, 14, 15, 16, 17, 18, 19, 20, 21, 22, 23, 24, 25, 26, 27, 28, 29, 30, 31, 32, 33, 34, 35, 36, 37, 38, 39, 40, 41, 42, 43, 44, 45, 46, 47, 48, 49, 50, 51, 52, 53, 54, 55, 56, 57] [0] rfl rfl rfl (by decide) hk (va_free hD hS hA [1, 2, 3, 4, 5, 6, 7, 8, 9, 10, 11, 12, 13, 14, 15, 16, 17, 18, 19, 20, 21, 22, 23, 24, 25, 26, 27, 28, 29, 30, 31, 32, 33, 34, 35, 36, 37, 38, 39, 40, 41, 42, 43, 44, 45, 46, 47, 48, 49, 50, 51, 52, 53, 54, 55, 56, 57] rfl) h1 (o_D_map hD0.self rfl)).1
  refine o_VT (rest := [.int (0:Int32), .ref o]) (As := [.int x1, .int x2]) hE.1 C (c_SJ_pair hE hT l hfl x1 x2 Pr Sj T0 T1 Rd Pg Pt Mk Lk Ck Jd Ld rt h) hK0 hP0 hD0 hS hl.1 rfl cw_0 k_7_21 k_7_22 k_7_23 k_1_1 k_7_24 hv_SJ_pair rfl rfl ⟨(Nat.le_of_ble_eq_true rfl), (Nat.le_of_ble_eq_true rfl)⟩ rfl (Nat.le_of_ble_eq_true rfl) ⟨(Nat.le_of_ble_eq_true rfl), (Nat.le_of_ble_eq_true rfl)⟩ d_LW_pair_5 ?_ ?_
  · intro _ H locs hP1 hk hS
    replace hP := hj H hP1 hk
    refine lv_i2l hx hb d_LW_pair_8 rfl ?_
    refine o_last (f := f) (w1 := ((o, .inl (cO, 1, .inr (.inl (vp_updL f 0 v.toInt64)))) :: o_cw ad ca rt Sj T0 T1 Rd Pg Pt Mk Lk Ck Jd Ld Pr)) C hP (o_D_map hD rfl : va_D A ((o, .inl (cO, 1, .inr (.inl f))) :: o_cw ad ca rt Sj T0 T1 Rd Pg Pt Mk Lk Ck Jd Ld Pr)) hS 0 0 rfl rfl (show o_in (0:Int32) 1 = true by decide) rfl d_LW_pair_9 (fun H locs hP hS => ?_)
    refine lv_goto (tgt := 17) hx hb d_LW_pair_10 (by decide) ?_
    refine lv_iconst (v := (0:Int32)) hx hb d_LW_pair_17 (by decide) ?_
    exact o_ri C hP hS d_LW_pair_18
  · exact fun hz => absurd (show (0 : Nat) = 0 from rfl) hz
set_option maxHeartbeats 4000000 in
set_option maxRecDepth 100000 in
theorem lh_pair_1 {E : (Nat → Prop) → State → Heap → Prop} {D : va_G} {ad kd sd vd xd : Nat → Nat} {ca : Nat → ClassId} {cO : ClassId} {o : Nat} (hE : o_EK E kd sd vd xd) (hT : o_ET E) (l : Launch) (hfl : l.flags = pinnedFlags ++ [noTraceFlag]) (x1 : Int32) (x2 : Int32) (Sj : SSJ) (T0 : STx) (T1 : STx) (Rd : SRd) (Pg : SPg) (Pt : SPt) (Mk : SMk) (Lk : SLk) (Ck : SCk) (Jd : SJd) (Ld : SLd) (Pr : SPr) (rt : Nat) (v : Int32) (f : Nat → Int64) (h : m_SJ_pair x1 x2 Pr = some (1, v)) : o_Cw E l D o_cls ((cO, .long) :: o_tys ca) y_LW_pair cw_LW_pair rm_LW_pair [.ref (ad 0), .int x1, .int x2, .ref o] ((o, .inl (cO, 1, .inr (.inl f))) :: o_cw ad ca rt Sj T0 T1 Rd Pg Pt Mk Lk Ck Jd Ld Pr) ((o, .inl (cO, 1, .inr (.inl f))) :: o_cw ad ca rt Sj T0 T1 Rd Pg Pt Mk Lk Ck Jd Ld Pr) (some (.int 1)) := by
  refine o_Cw_of (by decide) (Nat.le_of_ble_eq_true rfl) ?_
  intro p e s m below meth c A ls htab C hD hP hS hl
  have hl : lv_has ls 5 [(0, .ref (ad 0)), (1, .int x1), (2, .int x2), (3, .ref o)] := hl
  have C0 := C
  obtain ⟨hx, hb, -, -, -, hown, hts, hK, hA, -⟩ := C0
  refine lv_aload_n hx hb d_LW_pair_0 rfl (lv_at hl 3 rfl) ?_
  refine lv_iconst (v := (0:Int32)) hx hb d_LW_pair_1 (by decide) ?_
  refine lv_aload_n hx hb d_LW_pair_2 rfl (lv_at hl 0 rfl) ?_
  refine lv_iload_n hx hb d_LW_pair_3 rfl (lv_at hl 1 rfl) ?_
  refine lv_iload_n hx hb d_LW_pair_4 rfl (lv_at hl 2 rfl) ?_
  have hP0 : va_P D o_cls (o_cw ad ca rt Sj T0 T1 Rd Pg Pt Mk Lk Ck Jd Ld Pr) s.heap := hP.sub [1, 2, 3, 4, 5, 6, 7, 8, 9, 10, 11, 12, 13, 14, 15, 16, 17, 18, 19, 20, 21, 22, 23, 24, 25, 26, 27, 28, 29, 30, 31, 32, 33, 34, 35, 36, 37, 38, 39, 40, 41, 42, 43, 44, 45, 46, 47, 48, 49, 50, 51, 52, 53, 54, 55, 56, 57] rfl
  have hD0 : va_D A (o_cw ad ca rt Sj T0 T1 Rd Pg Pt Mk Lk Ck Jd Ld Pr) := hD.sub [1, 2, 3, 4, 5, 6, 7, 8, 9, 10, 11, 12, 13, 14, 15, 16, 17, 18, 19, 20, 21, 22, 23, 24, 25, 26, 27, 28, 29, 30, 31, 32, 33, 34, 35, 36, 37, 38, 39, 40, 41, 42, 43, 44, 45, 46, 47, 48, 49, 50, 51, 52, 53, 54, 55, 56, 57] rfl rfl
  have hK0 : va_K D o_cls (o_tys ca) s := hK.sub [1, 2, 3, 4, 5, 6, 7, 8, 9, 10, 11, 12, 13, 14, 15, 16, 17, 18, 19, 20, 21, 22, 23, 24, 25, 26, 27, 28, 29, 30, 31, 32, 33, 34, 35, 36, 37, 38, 39, 40, 41, 42, 43, 44, 45] rfl
  have hj : ∀ H1 : Heap, va_P D o_cls (o_cw ad ca rt Sj T0 T1 Rd Pg Pt Mk Lk Ck Jd Ld Pr) H1 → (∀ q : Nat, q < s.heap.size → ¬ va_A (o_cw ad ca rt Sj T0 T1 Rd Pg Pt Mk Lk Ck Jd Ld Pr) s.heap.size q → H1[q]? = s.heap[q]?) → va_P D o_cls ((o, .inl (cO, 1, .inr (.inl f))) :: o_cw ad ca rt Sj T0 T1 Rd Pg Pt Mk Lk Ck Jd Ld Pr) H1 := fun H1 h1 hk => (va_join (wr := [(o, .inl (cO, 1, .inr (.inl f)))]) hP hD [1, 2, 3, 4, 5, 6, 7, 8, 9, 10, 11, 12, 13, 14, 15, 16, 17, 18, 19, 20, 21, 22, 23, 24, 25, 26, 27, 28, 29, 30, 31, 32, 33, 34, 35, 36, 37, 38, 39, 40, 41, 42, 43, 44, 45, 46, 47, 48, 49, 50, 51, 52, 53, 54, 55, 56, 57] [0] rfl rfl rfl (by decide) hk (va_free hD hS hA [1, 2, 3, 4, 5, 6, 7, 8, 9, 10, 11, 12, 13, 14, 15, 16, 17, 18, 19, 20, 21, 22, 23, 24, 25, 26, 27, 28, 29, 30, 31, 32, 33, 34, 35, 36, 37, 38, 39, 40, 41, 42, 43, 44, 45, 46, 47, 48, 49, 50, 51, 52, 53, 54, 55, 56, 57] rfl) h1 (o_D_map hD0.self rfl)).1
  refine o_VT (rest := [.int (0:Int32), .ref o]) (As := [.int x1, .int x2]) hE.1 C (c_SJ_pair hE hT l hfl x1 x2 Pr Sj T0 T1 Rd Pg Pt Mk Lk Ck Jd Ld rt h) hK0 hP0 hD0 hS hl.1 rfl cw_0 k_7_21 k_7_22 k_7_23 k_1_1 k_7_24 hv_SJ_pair rfl rfl ⟨(Nat.le_of_ble_eq_true rfl), (Nat.le_of_ble_eq_true rfl)⟩ rfl (Nat.le_of_ble_eq_true rfl) ⟨(Nat.le_of_ble_eq_true rfl), (Nat.le_of_ble_eq_true rfl)⟩ d_LW_pair_5 ?_ ?_
  · exact fun hz => absurd (show (1 : Nat) = 0 from hz) (by decide)
  · intro hz H locs x cell hP1 hk hS hxc hxv hxf
    replace hP := hj H hP1 hk
    refine o_catch1 (Xn := "java/lang/IndexOutOfBoundsException") hown htab (by decide) (by decide) (by decide) (hts _ k_2_163) (o_dv_cast k_2_173 _ _ hts) hxc hxv hxf ?_
    refine lv_astore (lv' := [(4, .ref x)]) hx hb d_LW_pair_13 (lv_sub hl [] rfl) (by decide) rfl (fun ls hl => ?_)
    refine lv_iconst (v := (1:Int32)) hx hb d_LW_pair_15 (by decide) ?_
    exact o_ri C hP hS d_LW_pair_16
abbrev hh_LW_value : List (Nat × Nat × Nat × Nat) := [(0, 12, 15, 19), (0, 12, 19, 13)]
abbrev cw_LW_value : Cond := Cond.codeWith y_LW_value b_LW_value 6 (some .int) hh_LW_value
theorem kw_LW_value : cw_LW_value ∈ o_WS := k_7_36
abbrev rm_LW_value : Room := { frames := 9, cells := 1, slots := 6, locals := 224 }
theorem hs_LW_value : y_LW_value.cls ≠ "java/lang/invoke/MethodHandle" ∧ y_LW_value.cls ≠ "java/lang/invoke/VarHandle" ∧ (parseMethodDescriptor y_LW_value.desc).map (fun d => d.parameters.length) = some 5 := by decide +kernel
set_option maxHeartbeats 4000000 in
set_option maxRecDepth 100000 in
theorem lh_value_0 {E : (Nat → Prop) → State → Heap → Prop} {D : va_G} {ad kd sd vd xd : Nat → Nat} {ca : Nat → ClassId} {cO : ClassId} {o : Nat} (hE : o_EK E kd sd vd xd) (hT : o_ET E) (l : Launch) (hfl : l.flags = pinnedFlags ++ [noTraceFlag]) (x1 : Int32) (x2 : Int32) (x3 : Int32) (Sj : SSJ) (T0 : STx) (T1 : STx) (Rd : SRd) (Pg : SPg) (Pt : SPt) (Mk : SMk) (Lk : SLk) (Ck : SCk) (Jd : SJd) (Ld : SLd) (Pr : SPr) (rt : Nat) (v : Int32) (f : Nat → Int64) (h : m_SJ_value x1 x2 x3 T0 T1 = some (0, v)) : o_Cw E l D o_cls ((cO, .long) :: o_tys ca) y_LW_value cw_LW_value rm_LW_value [.ref (ad 0), .int x1, .int x2, .int x3, .ref o] ((o, .inl (cO, 1, .inr (.inl f))) :: o_cw ad ca rt Sj T0 T1 Rd Pg Pt Mk Lk Ck Jd Ld Pr) ((o, .inl (cO, 1, .inr (.inl (vp_updL f 0 v.toInt64)))) :: o_cw ad ca rt Sj T0 T1 Rd Pg Pt Mk Lk Ck Jd Ld Pr) (some (.int 0)) := by
  refine o_Cw_of (by decide) (Nat.le_of_ble_eq_true rfl) ?_
  intro p e s m below meth c A ls htab C hD hP hS hl
  have hl : lv_has ls 6 [(0, .ref (ad 0)), (1, .int x1), (2, .int x2), (3, .int x3), (4, .ref o)] := hl
  have C0 := C
  obtain ⟨hx, hb, -, -, -, hown, hts, hK, hA, -⟩ := C0
  refine lv_aload hx hb d_LW_value_0 (lv_at hl 4 rfl) ?_
  refine lv_iconst (v := (0:Int32)) hx hb d_LW_value_2 (by decide) ?_
  refine lv_aload_n hx hb d_LW_value_3 rfl (lv_at hl 0 rfl) ?_
  refine lv_iload_n hx hb d_LW_value_4 rfl (lv_at hl 1 rfl) ?_
  refine lv_iload_n hx hb d_LW_value_5 rfl (lv_at hl 2 rfl) ?_
  refine lv_iload_n hx hb d_LW_value_6 rfl (lv_at hl 3 rfl) ?_
  have hP0 : va_P D o_cls (o_cw ad ca rt Sj T0 T1 Rd Pg Pt Mk Lk Ck Jd Ld Pr) s.heap := hP.sub [1, 2, 3, 4, 5, 6, 7, 8, 9, 10, 11, 12, 13, 14, 15, 16, 17, 18, 19, 20, 21, 22, 23, 24, 25, 26, 27, 28, 29, 30, 31, 32, 33, 34, 35, 36, 37, 38, 39, 40, 41, 42, 43, 44, 45, 46, 47, 48, 49, 50, 51, 52, 53, 54, 55, 56, 57] rfl
  have hD0 : va_D A (o_cw ad ca rt Sj T0 T1 Rd Pg Pt Mk Lk Ck Jd Ld Pr) := hD.sub [1, 2, 3, 4, 5, 6, 7, 8, 9, 10, 11, 12, 13, 14, 15, 16, 17, 18, 19, 20, 21, 22, 23, 24, 25, 26, 27, 28, 29, 30, 31, 32, 33, 34, 35, 36, 37, 38, 39, 40, 41, 42, 43, 44, 45, 46, 47, 48, 49, 50, 51, 52, 53, 54, 55, 56, 57] rfl rfl
  have hK0 : va_K D o_cls (o_tys ca) s := hK.sub [1, 2, 3, 4, 5, 6, 7, 8, 9, 10, 11, 12, 13, 14, 15, 16, 17, 18, 19, 20, 21, 22, 23, 24, 25, 26, 27, 28, 29, 30, 31, 32, 33, 34, 35, 36, 37, 38, 39, 40, 41, 42, 43, 44, 45] rfl
  have hj : ∀ H1 : Heap, va_P D o_cls (o_cw ad ca rt Sj T0 T1 Rd Pg Pt Mk Lk Ck Jd Ld Pr) H1 → (∀ q : Nat, q < s.heap.size → ¬ va_A (o_cw ad ca rt Sj T0 T1 Rd Pg Pt Mk Lk Ck Jd Ld Pr) s.heap.size q → H1[q]? = s.heap[q]?) → va_P D o_cls ((o, .inl (cO, 1, .inr (.inl f))) :: o_cw ad ca rt Sj T0 T1 Rd Pg Pt Mk Lk Ck Jd Ld Pr) H1 := fun H1 h1 hk => (va_join (wr := [(o, .inl (cO, 1, .inr (.inl f)))]) hP hD [1, 2, 3, 4, 5, 6, 7, 8, 9, 10, 11, 12, 13, 14, 15, 16, 17, 18, 19, 20, 21, 22, 23, 24, 25, 26, 27, 28, 29, 30, 31, 32, 33, 34, 35, 36, 37, 38, 39, 40, 41, 42, 43, 44, 45, 46, 47, 48, 49, 50, 51, 52, 53, 54, 55, 56, 57] [0] rfl rfl rfl (by decide) hk (va_free hD hS hA [1, 2, 3, 4, 5, 6, 7, 8, 9, 10, 11, 12, 13, 14, 15, 16, 17, 18, 19, 20, 21, 22, 23, 24, 25, 26, 27, 28, 29, 30, 31, 32, 33, 34, 35, 36, 37, 38, 39, 40, 41, 42, 43, 44, 45, 46, 47, 48, 49, 50, 51, 52, 53, 54, 55, 56, 57] rfl) h1 (o_D_map hD0.self rfl)).1
  refine o_VT (rest := [.int (0:Int32), .ref o]) (As := [.int x1, .int x2, .int x3]) hE.1 C (c_SJ_value hE hT l hfl x1 x2 x3 T0 T1 Sj Rd Pg Pt Mk Lk Ck Jd Ld Pr rt h) hK0 hP0 hD0 hS hl.1 rfl cw_0 k_7_37 k_7_38 k_7_39 k_1_1 k_7_40 hv_SJ_value rfl rfl ⟨(Nat.le_of_ble_eq_true rfl), (Nat.le_of_ble_eq_true rfl)⟩ rfl (Nat.le_of_ble_eq_true rfl) ⟨(Nat.le_of_ble_eq_true rfl), (Nat.le_of_ble_eq_true rfl)⟩ d_LW_value_7 ?_ ?_
  · intro _ H locs hP1 hk hS
    replace hP := hj H hP1 hk
    refine lv_i2l hx hb d_LW_value_10 rfl ?_
    refine o_last (f := f) (w1 := ((o, .inl (cO, 1, .inr (.inl (vp_updL f 0 v.toInt64)))) :: o_cw ad ca rt Sj T0 T1 Rd Pg Pt Mk Lk Ck Jd Ld Pr)) C hP (o_D_map hD rfl : va_D A ((o, .inl (cO, 1, .inr (.inl f))) :: o_cw ad ca rt Sj T0 T1 Rd Pg Pt Mk Lk Ck Jd Ld Pr)) hS 0 0 rfl rfl (show o_in (0:Int32) 1 = true by decide) rfl d_LW_value_11 (fun H locs hP hS => ?_)
    refine lv_goto (tgt := 23) hx hb d_LW_value_12 (by decide) ?_
    refine lv_iconst (v := (0:Int32)) hx hb d_LW_value_23 (by decide) ?_
    exact o_ri C hP hS d_LW_value_24
  · exact fun hz => absurd (show (0 : Nat) = 0 from rfl) hz
set_option maxHeartbeats 4000000 in
set_option maxRecDepth 100000 in
theorem lh_value_2 {E : (Nat → Prop) → State → Heap → Prop} {D : va_G} {ad kd sd vd xd : Nat → Nat} {ca : Nat → ClassId} {cO : ClassId} {o : Nat} (hE : o_EK E kd sd vd xd) (hT : o_ET E) (l : Launch) (hfl : l.flags = pinnedFlags ++ [noTraceFlag]) (x1 : Int32) (x2 : Int32) (x3 : Int32) (Sj : SSJ) (T0 : STx) (T1 : STx) (Rd : SRd) (Pg : SPg) (Pt : SPt) (Mk : SMk) (Lk : SLk) (Ck : SCk) (Jd : SJd) (Ld : SLd) (Pr : SPr) (rt : Nat) (v : Int32) (f : Nat → Int64) (h : m_SJ_value x1 x2 x3 T0 T1 = some (2, v)) : o_Cw E l D o_cls ((cO, .long) :: o_tys ca) y_LW_value cw_LW_value rm_LW_value [.ref (ad 0), .int x1, .int x2, .int x3, .ref o] ((o, .inl (cO, 1, .inr (.inl f))) :: o_cw ad ca rt Sj T0 T1 Rd Pg Pt Mk Lk Ck Jd Ld Pr) ((o, .inl (cO, 1, .inr (.inl f))) :: o_cw ad ca rt Sj T0 T1 Rd Pg Pt Mk Lk Ck Jd Ld Pr) (some (.int 1)) := by
  refine o_Cw_of (by decide) (Nat.le_of_ble_eq_true rfl) ?_
  intro p e s m below meth c A ls htab C hD hP hS hl
  have hl : lv_has ls 6 [(0, .ref (ad 0)), (1, .int x1), (2, .int x2), (3, .int x3), (4, .ref o)] := hl
  have C0 := C
  obtain ⟨hx, hb, -, -, -, hown, hts, hK, hA, -⟩ := C0
  refine lv_aload hx hb d_LW_value_0 (lv_at hl 4 rfl) ?_
  refine lv_iconst (v := (0:Int32)) hx hb d_LW_value_2 (by decide) ?_
  refine lv_aload_n hx hb d_LW_value_3 rfl (lv_at hl 0 rfl) ?_
  refine lv_iload_n hx hb d_LW_value_4 rfl (lv_at hl 1 rfl) ?_
  refine lv_iload_n hx hb d_LW_value_5 rfl (lv_at hl 2 rfl) ?_
  refine lv_iload_n hx hb d_LW_value_6 rfl (lv_at hl 3 rfl) ?_
  have hP0 : va_P D o_cls (o_cw ad ca rt Sj T0 T1 Rd Pg Pt Mk Lk Ck Jd Ld Pr) s.heap := hP.sub [1, 2, 3, 4, 5, 6, 7, 8, 9, 10, 11, 12, 13, 14, 15, 16, 17, 18, 19, 20, 21, 22, 23, 24, 25, 26, 27, 28, 29, 30, 31, 32, 33, 34, 35, 36, 37, 38, 39, 40, 41, 42, 43, 44, 45, 46, 47, 48, 49, 50, 51, 52, 53, 54, 55, 56, 57] rfl
  have hD0 : va_D A (o_cw ad ca rt Sj T0 T1 Rd Pg Pt Mk Lk Ck Jd Ld Pr) := hD.sub [1, 2, 3, 4, 5, 6, 7, 8, 9, 10, 11, 12, 13, 14, 15, 16, 17, 18, 19, 20, 21, 22, 23, 24, 25, 26, 27, 28, 29, 30, 31, 32, 33, 34, 35, 36, 37, 38, 39, 40, 41, 42, 43, 44, 45, 46, 47, 48, 49, 50, 51, 52, 53, 54, 55, 56, 57] rfl rfl
  have hK0 : va_K D o_cls (o_tys ca) s := hK.sub [1, 2, 3, 4, 5, 6, 7, 8, 9, 10, 11, 12, 13, 14, 15, 16, 17, 18, 19, 20, 21, 22, 23, 24, 25, 26, 27, 28, 29, 30, 31, 32, 33, 34, 35, 36, 37, 38, 39, 40, 41, 42, 43, 44, 45] rfl
  have hj : ∀ H1 : Heap, va_P D o_cls (o_cw ad ca rt Sj T0 T1 Rd Pg Pt Mk Lk Ck Jd Ld Pr) H1 → (∀ q : Nat, q < s.heap.size → ¬ va_A (o_cw ad ca rt Sj T0 T1 Rd Pg Pt Mk Lk Ck Jd Ld Pr) s.heap.size q → H1[q]? = s.heap[q]?) → va_P D o_cls ((o, .inl (cO, 1, .inr (.inl f))) :: o_cw ad ca rt Sj T0 T1 Rd Pg Pt Mk Lk Ck Jd Ld Pr) H1 := fun H1 h1 hk => (va_join (wr := [(o, .inl (cO, 1, .inr (.inl f)))]) hP hD [1, 2, 3, 4, 5, 6, 7, 8, 9, 10, 11, 12, 13, 14, 15, 16, 17, 18, 19, 20, 21, 22, 23, 24, 25, 26, 27, 28, 29, 30, 31, 32, 33, 34, 35, 36, 37, 38, 39, 40, 41, 42, 43, 44, 45, 46, 47, 48, 49, 50, 51, 52, 53, 54, 55, 56, 57] [0] rfl rfl rfl (by decide) hk (va_free hD hS hA [1, 2, 3, 4, 5, 6, 7, 8, 9, 10, 11, 12, 13, 14, 15, 16, 17, 18, 19, 20, 21, 22, 23, 24, 25, 26, 27, 28, 29, 30, 31, 32, 33, 34, 35, 36, 37, 38, 39, 40, 41, 42, 43, 44, 45, 46, 47, 48, 49, 50, 51, 52, 53, 54, 55, 56, 57] rfl) h1 (o_D_map hD0.self rfl)).1
  refine o_VT (rest := [.int (0:Int32), .ref o]) (As := [.int x1, .int x2, .int x3]) hE.1 C (c_SJ_value hE hT l hfl x1 x2 x3 T0 T1 Sj Rd Pg Pt Mk Lk Ck Jd Ld Pr rt h) hK0 hP0 hD0 hS hl.1 rfl cw_0 k_7_37 k_7_38 k_7_39 k_1_1 k_7_40 hv_SJ_value rfl rfl ⟨(Nat.le_of_ble_eq_true rfl), (Nat.le_of_ble_eq_true rfl)⟩ rfl (Nat.le_of_ble_eq_true rfl) ⟨(Nat.le_of_ble_eq_true rfl), (Nat.le_of_ble_eq_true rfl)⟩ d_LW_value_7 ?_ ?_
  · exact fun hz => absurd (show (2 : Nat) = 0 from hz) (by decide)
  · intro hz H locs x cell hP1 hk hS hxc hxv hxf
    replace hP := hj H hP1 hk
    refine o_catch1 (Xn := "java/lang/IllegalArgumentException") hown htab (by decide) (by decide) (by decide) (hts _ k_3_12) (o_dv_cast k_3_230 _ _ hts) hxc hxv hxf ?_
    refine lv_astore (lv' := [(5, .ref x)]) hx hb d_LW_value_15 (lv_sub hl [] rfl) (by decide) rfl (fun ls hl => ?_)
    refine lv_iconst (v := (1:Int32)) hx hb d_LW_value_17 (by decide) ?_
    exact o_ri C hP hS d_LW_value_18
set_option maxHeartbeats 4000000 in
set_option maxRecDepth 100000 in
theorem lh_value_1 {E : (Nat → Prop) → State → Heap → Prop} {D : va_G} {ad kd sd vd xd : Nat → Nat} {ca : Nat → ClassId} {cO : ClassId} {o : Nat} (hE : o_EK E kd sd vd xd) (hT : o_ET E) (l : Launch) (hfl : l.flags = pinnedFlags ++ [noTraceFlag]) (x1 : Int32) (x2 : Int32) (x3 : Int32) (Sj : SSJ) (T0 : STx) (T1 : STx) (Rd : SRd) (Pg : SPg) (Pt : SPt) (Mk : SMk) (Lk : SLk) (Ck : SCk) (Jd : SJd) (Ld : SLd) (Pr : SPr) (rt : Nat) (v : Int32) (f : Nat → Int64) (h : m_SJ_value x1 x2 x3 T0 T1 = some (1, v)) : o_Cw E l D o_cls ((cO, .long) :: o_tys ca) y_LW_value cw_LW_value rm_LW_value [.ref (ad 0), .int x1, .int x2, .int x3, .ref o] ((o, .inl (cO, 1, .inr (.inl f))) :: o_cw ad ca rt Sj T0 T1 Rd Pg Pt Mk Lk Ck Jd Ld Pr) ((o, .inl (cO, 1, .inr (.inl f))) :: o_cw ad ca rt Sj T0 T1 Rd Pg Pt Mk Lk Ck Jd Ld Pr) (some (.int 2)) := by
  refine o_Cw_of (by decide) (Nat.le_of_ble_eq_true rfl) ?_
  intro p e s m below meth c A ls htab C hD hP hS hl
  have hl : lv_has ls 6 [(0, .ref (ad 0)), (1, .int x1), (2, .int x2), (3, .int x3), (4, .ref o)] := hl
  have C0 := C
  obtain ⟨hx, hb, -, -, -, hown, hts, hK, hA, -⟩ := C0
  refine lv_aload hx hb d_LW_value_0 (lv_at hl 4 rfl) ?_
  refine lv_iconst (v := (0:Int32)) hx hb d_LW_value_2 (by decide) ?_
  refine lv_aload_n hx hb d_LW_value_3 rfl (lv_at hl 0 rfl) ?_
  refine lv_iload_n hx hb d_LW_value_4 rfl (lv_at hl 1 rfl) ?_
  refine lv_iload_n hx hb d_LW_value_5 rfl (lv_at hl 2 rfl) ?_
  refine lv_iload_n hx hb d_LW_value_6 rfl (lv_at hl 3 rfl) ?_
  have hP0 : va_P D o_cls (o_cw ad ca rt Sj T0 T1 Rd Pg Pt Mk Lk Ck Jd Ld Pr) s.heap := hP.sub [1, 2, 3, 4, 5, 6, 7, 8, 9, 10, 11, 12, 13, 14, 15, 16, 17, 18, 19, 20, 21, 22, 23, 24, 25, 26, 27, 28, 29, 30, 31, 32, 33, 34, 35, 36, 37, 38, 39, 40, 41, 42, 43, 44, 45, 46, 47, 48, 49, 50, 51, 52, 53, 54, 55, 56, 57] rfl
  have hD0 : va_D A (o_cw ad ca rt Sj T0 T1 Rd Pg Pt Mk Lk Ck Jd Ld Pr) := hD.sub [1, 2, 3, 4, 5, 6, 7, 8, 9, 10, 11, 12, 13, 14, 15, 16, 17, 18, 19, 20, 21, 22, 23, 24, 25, 26, 27, 28, 29, 30, 31, 32, 33, 34, 35, 36, 37, 38, 39, 40, 41, 42, 43, 44, 45, 46, 47, 48, 49, 50, 51, 52, 53, 54, 55, 56, 57] rfl rfl
  have hK0 : va_K D o_cls (o_tys ca) s := hK.sub [1, 2, 3, 4, 5, 6, 7, 8, 9, 10, 11, 12, 13, 14, 15, 16, 17, 18, 19, 20, 21, 22, 23, 24, 25, 26, 27, 28, 29, 30, 31, 32, 33, 34, 35, 36, 37, 38, 39, 40, 41, 42, 43, 44, 45] rfl
  have hj : ∀ H1 : Heap, va_P D o_cls (o_cw ad ca rt Sj T0 T1 Rd Pg Pt Mk Lk Ck Jd Ld Pr) H1 → (∀ q : Nat, q < s.heap.size → ¬ va_A (o_cw ad ca rt Sj T0 T1 Rd Pg Pt Mk Lk Ck Jd Ld Pr) s.heap.size q → H1[q]? = s.heap[q]?) → va_P D o_cls ((o, .inl (cO, 1, .inr (.inl f))) :: o_cw ad ca rt Sj T0 T1 Rd Pg Pt Mk Lk Ck Jd Ld Pr) H1 := fun H1 h1 hk => (va_join (wr := [(o, .inl (cO, 1, .inr (.inl f)))]) hP hD [1, 2, 3, 4, 5, 6, 7, 8, 9, 10, 11, 12, 13, 14, 15, 16, 17, 18, 19, 20, 21, 22, 23, 24, 25, 26, 27, 28, 29, 30, 31, 32, 33, 34, 35, 36, 37, 38, 39, 40, 41, 42, 43, 44, 45, 46, 47, 48, 49, 50, 51, 52, 53, 54, 55, 56, 57] [0] rfl rfl rfl (by decide) hk (va_free hD hS hA [1, 2, 3, 4, 5, 6, 7, 8, 9, 10, 11, 12, 13, 14, 15, 16, 17, 18, 19, 20, 21, 22, 23, 24, 25, 26, 27, 28, 29, 30, 31, 32, 33, 34, 35, 36, 37, 38, 39, 40, 41, 42, 43, 44, 45, 46, 47, 48, 49, 50, 51, 52, 53, 54, 55, 56, 57] rfl) h1 (o_D_map hD0.self rfl)).1
  refine o_VT (rest := [.int (0:Int32), .ref o]) (As := [.int x1, .int x2, .int x3]) hE.1 C (c_SJ_value hE hT l hfl x1 x2 x3 T0 T1 Sj Rd Pg Pt Mk Lk Ck Jd Ld Pr rt h) hK0 hP0 hD0 hS hl.1 rfl cw_0 k_7_37 k_7_38 k_7_39 k_1_1 k_7_40 hv_SJ_value rfl rfl ⟨(Nat.le_of_ble_eq_true rfl), (Nat.le_of_ble_eq_true rfl)⟩ rfl (Nat.le_of_ble_eq_true rfl) ⟨(Nat.le_of_ble_eq_true rfl), (Nat.le_of_ble_eq_true rfl)⟩ d_LW_value_7 ?_ ?_
  · exact fun hz => absurd (show (1 : Nat) = 0 from hz) (by decide)
  · intro hz H locs x cell hP1 hk hS hxc hxv hxf
    replace hP := hj H hP1 hk
    refine o_catch2 (Xn := "java/lang/IndexOutOfBoundsException") hown htab (by decide) (by decide) (by decide) (by decide) (by decide) (by decide) (hts _ k_3_12) (hts _ k_2_163) (o_dv_cast k_2_173 _ _ hts) (fun c1 h1 => (hT _ _ _ C.2.2.2.2.2.2.2.2.2).2.2.2.1 _ _ hxf h1) hxc hxv hxf ?_
    refine lv_astore (lv' := [(5, .ref x)]) hx hb d_LW_value_19 (lv_sub hl [] rfl) (by decide) rfl (fun ls hl => ?_)
    refine lv_iconst (v := (2:Int32)) hx hb d_LW_value_21 (by decide) ?_
    exact o_ri C hP hS d_LW_value_22
abbrev hh_LW_alike : List (Nat × Nat × Nat × Nat) := [(0, 17, 20, 13)]
abbrev cw_LW_alike : Cond := Cond.codeWith y_LW_alike b_LW_alike 5 (some .int) hh_LW_alike
theorem kw_LW_alike : cw_LW_alike ∈ o_WS := k_7_54
abbrev rm_LW_alike : Room := { frames := 50, cells := 1, slots := 6, locals := 1450 }
theorem hs_LW_alike : y_LW_alike.cls ≠ "java/lang/invoke/MethodHandle" ∧ y_LW_alike.cls ≠ "java/lang/invoke/VarHandle" ∧ (parseMethodDescriptor y_LW_alike.desc).map (fun d => d.parameters.length) = some 4 := by decide +kernel
set_option maxHeartbeats 4000000 in
set_option maxRecDepth 100000 in
theorem lh_alike_0 {E : (Nat → Prop) → State → Heap → Prop} {D : va_G} {ad kd sd vd xd : Nat → Nat} {ca : Nat → ClassId} {cO : ClassId} {o : Nat} (hE : o_EK E kd sd vd xd) (hT : o_ET E) (l : Launch) (hfl : l.flags = pinnedFlags ++ [noTraceFlag]) (n : Nat) (x1 : Int32) (x2 : Int32) (Sj : SSJ) (T0 : STx) (T1 : STx) (Rd : SRd) (Pg : SPg) (Pt : SPt) (Mk : SMk) (Lk : SLk) (Ck : SCk) (Jd : SJd) (Ld : SLd) (Pr : SPr) (rt : Nat) (v : Int32) (f : Nat → Int64) (h : m_SJ_alike n x1 x2 T1 = some (0, v)) : o_Cw E l D o_cls ((cO, .long) :: o_tys ca) y_LW_alike cw_LW_alike rm_LW_alike [.ref (ad 0), .int x1, .int x2, .ref o] ((o, .inl (cO, 1, .inr (.inl f))) :: o_cw ad ca rt Sj T0 T1 Rd Pg Pt Mk Lk Ck Jd Ld Pr) ((o, .inl (cO, 1, .inr (.inl (vp_updL f 0 (if v = 0 then 0 else 1))))) :: o_cw ad ca rt Sj T0 T1 Rd Pg Pt Mk Lk Ck Jd Ld Pr) (some (.int 0)) := by
  refine o_Cw_of (by decide) (Nat.le_of_ble_eq_true rfl) ?_
  intro p e s m below meth c A ls htab C hD hP hS hl
  have hl : lv_has ls 5 [(0, .ref (ad 0)), (1, .int x1), (2, .int x2), (3, .ref o)] := hl
  have C0 := C
  obtain ⟨hx, hb, -, -, -, hown, hts, hK, hA, -⟩ := C0
  refine lv_aload_n hx hb d_LW_alike_0 rfl (lv_at hl 3 rfl) ?_
  refine lv_iconst (v := (0:Int32)) hx hb d_LW_alike_1 (by decide) ?_
  refine lv_aload_n hx hb d_LW_alike_2 rfl (lv_at hl 0 rfl) ?_
  refine lv_iload_n hx hb d_LW_alike_3 rfl (lv_at hl 1 rfl) ?_
  refine lv_iload_n hx hb d_LW_alike_4 rfl (lv_at hl 2 rfl) ?_
  have hP0 : va_P D o_cls (o_cw ad ca rt Sj T0 T1 Rd Pg Pt Mk Lk Ck Jd Ld Pr) s.heap := hP.sub [1, 2, 3, 4, 5, 6, 7, 8, 9, 10, 11, 12, 13, 14, 15, 16, 17, 18, 19, 20, 21, 22, 23, 24, 25, 26, 27, 28, 29, 30, 31, 32, 33, 34, 35, 36, 37, 38, 39, 40, 41, 42, 43, 44, 45, 46, 47, 48, 49, 50, 51, 52, 53, 54, 55, 56, 57] rfl
  have hD0 : va_D A (o_cw ad ca rt Sj T0 T1 Rd Pg Pt Mk Lk Ck Jd Ld Pr) := hD.sub [1, 2, 3, 4, 5, 6, 7, 8, 9, 10, 11, 12, 13, 14, 15, 16, 17, 18, 19, 20, 21, 22, 23, 24, 25, 26, 27, 28, 29, 30, 31, 32, 33, 34, 35, 36, 37, 38, 39, 40, 41, 42, 43, 44, 45, 46, 47, 48, 49, 50, 51, 52, 53, 54, 55, 56, 57] rfl rfl
  have hK0 : va_K D o_cls (o_tys ca) s := hK.sub [1, 2, 3, 4, 5, 6, 7, 8, 9, 10, 11, 12, 13, 14, 15, 16, 17, 18, 19, 20, 21, 22, 23, 24, 25, 26, 27, 28, 29, 30, 31, 32, 33, 34, 35, 36, 37, 38, 39, 40, 41, 42, 43, 44, 45] rfl
  have hj : ∀ H1 : Heap, va_P D o_cls (o_cw ad ca rt Sj T0 T1 Rd Pg Pt Mk Lk Ck Jd Ld Pr) H1 → (∀ q : Nat, q < s.heap.size → ¬ va_A (o_cw ad ca rt Sj T0 T1 Rd Pg Pt Mk Lk Ck Jd Ld Pr) s.heap.size q → H1[q]? = s.heap[q]?) → va_P D o_cls ((o, .inl (cO, 1, .inr (.inl f))) :: o_cw ad ca rt Sj T0 T1 Rd Pg Pt Mk Lk Ck Jd Ld Pr) H1 := fun H1 h1 hk => (va_join (wr := [(o, .inl (cO, 1, .inr (.inl f)))]) hP hD [1, 2, 3, 4, 5, 6, 7, 8, 9, 10, 11, 12, 13, 14, 15, 16, 17, 18, 19, 20, 21, 22, 23, 24, 25, 26, 27, 28, 29, 30, 31, 32, 33, 34, 35, 36, 37, 38, 39, 40, 41, 42, 43, 44, 45, 46, 47, 48, 49, 50, 51, 52, 53, 54, 55, 56, 57] [0] rfl rfl rfl (by decide) hk (va_free hD hS hA [1, 2, 3, 4, 5, 6, 7, 8, 9, 10, 11, 12, 13, 14, 15, 16, 17, 18, 19, 20, 21, 22, 23, 24, 25, 26, 27, 28, 29, 30, 31, 32, 33, 34, 35, 36, 37, 38, 39, 40, 41, 42, 43, 44, 45, 46, 47, 48, 49, 50, 51, 52, 53, 54, 55, 56, 57] rfl) h1 (o_D_map hD0.self rfl)).1
  refine o_VT (rest := [.int (0:Int32), .ref o]) (As := [.int x1, .int x2]) hE.1 C (c_SJ_alike hE hT l hfl n x1 x2 T1 Sj T0 Rd Pg Pt Mk Lk Ck Jd Ld Pr rt h) hK0 hP0 hD0 hS hl.1 rfl cw_0 k_7_55 k_7_56 k_7_57 k_1_1 k_7_58 hv_SJ_alike rfl rfl ⟨(Nat.le_of_ble_eq_true rfl), (Nat.le_of_ble_eq_true rfl)⟩ rfl (Nat.le_of_ble_eq_true rfl) ⟨(Nat.le_of_ble_eq_true rfl), (Nat.le_of_ble_eq_true rfl)⟩ d_LW_alike_5 ?_ ?_
  · intro _ H locs hP1 hk hS
    replace hP := hj H hP1 hk
    refine lv_if_eq (tgt := 15) hx hb d_LW_alike_8 (by decide) (fun cc => ?_) (fun cc => ?_)
    · replace hP := hP
      refine lv_lconst (v := (0:Int64)) hx hb d_LW_alike_15 (by decide) ?_
      rw [if_pos cc]
      refine o_last (f := f) (w1 := ((o, .inl (cO, 1, .inr (.inl (vp_updL f 0 (0:Int64))))) :: o_cw ad ca rt Sj T0 T1 Rd Pg Pt Mk Lk Ck Jd Ld Pr)) C hP (o_D_map hD rfl : va_D A ((o, .inl (cO, 1, .inr (.inl f))) :: o_cw ad ca rt Sj T0 T1 Rd Pg Pt Mk Lk Ck Jd Ld Pr)) hS 0 0 rfl rfl (show o_in (0:Int32) 1 = true by decide) rfl d_LW_alike_16 (fun H locs hP hS => ?_)
      refine lv_goto (tgt := 24) hx hb d_LW_alike_17 (by decide) ?_
      refine lv_iconst (v := (0:Int32)) hx hb d_LW_alike_24 (by decide) ?_
      exact o_ri C hP hS d_LW_alike_25
    · replace hP := hP
      refine lv_lconst (v := (1:Int64)) hx hb d_LW_alike_11 (by decide) ?_
      refine lv_goto (tgt := 16) hx hb d_LW_alike_12 (by decide) ?_
      rw [if_neg cc]
      refine o_last (f := f) (w1 := ((o, .inl (cO, 1, .inr (.inl (vp_updL f 0 (1:Int64))))) :: o_cw ad ca rt Sj T0 T1 Rd Pg Pt Mk Lk Ck Jd Ld Pr)) C hP (o_D_map hD rfl : va_D A ((o, .inl (cO, 1, .inr (.inl f))) :: o_cw ad ca rt Sj T0 T1 Rd Pg Pt Mk Lk Ck Jd Ld Pr)) hS 0 0 rfl rfl (show o_in (0:Int32) 1 = true by decide) rfl d_LW_alike_16 (fun H locs hP hS => ?_)
      refine lv_goto (tgt := 24) hx hb d_LW_alike_17 (by decide) ?_
      refine lv_iconst (v := (0:Int32)) hx hb d_LW_alike_24 (by decide) ?_
      exact o_ri C hP hS d_LW_alike_25
  · exact fun hz => absurd (show (0 : Nat) = 0 from rfl) hz
set_option maxHeartbeats 4000000 in
set_option maxRecDepth 100000 in
theorem lh_alike_1 {E : (Nat → Prop) → State → Heap → Prop} {D : va_G} {ad kd sd vd xd : Nat → Nat} {ca : Nat → ClassId} {cO : ClassId} {o : Nat} (hE : o_EK E kd sd vd xd) (hT : o_ET E) (l : Launch) (hfl : l.flags = pinnedFlags ++ [noTraceFlag]) (n : Nat) (x1 : Int32) (x2 : Int32) (Sj : SSJ) (T0 : STx) (T1 : STx) (Rd : SRd) (Pg : SPg) (Pt : SPt) (Mk : SMk) (Lk : SLk) (Ck : SCk) (Jd : SJd) (Ld : SLd) (Pr : SPr) (rt : Nat) (v : Int32) (f : Nat → Int64) (h : m_SJ_alike n x1 x2 T1 = some (1, v)) : o_Cw E l D o_cls ((cO, .long) :: o_tys ca) y_LW_alike cw_LW_alike rm_LW_alike [.ref (ad 0), .int x1, .int x2, .ref o] ((o, .inl (cO, 1, .inr (.inl f))) :: o_cw ad ca rt Sj T0 T1 Rd Pg Pt Mk Lk Ck Jd Ld Pr) ((o, .inl (cO, 1, .inr (.inl f))) :: o_cw ad ca rt Sj T0 T1 Rd Pg Pt Mk Lk Ck Jd Ld Pr) (some (.int 1)) := by
  refine o_Cw_of (by decide) (Nat.le_of_ble_eq_true rfl) ?_
  intro p e s m below meth c A ls htab C hD hP hS hl
  have hl : lv_has ls 5 [(0, .ref (ad 0)), (1, .int x1), (2, .int x2), (3, .ref o)] := hl
  have C0 := C
  obtain ⟨hx, hb, -, -, -, hown, hts, hK, hA, -⟩ := C0
  refine lv_aload_n hx hb d_LW_alike_0 rfl (lv_at hl 3 rfl) ?_
  refine lv_iconst (v := (0:Int32)) hx hb d_LW_alike_1 (by decide) ?_
  refine lv_aload_n hx hb d_LW_alike_2 rfl (lv_at hl 0 rfl) ?_
  refine lv_iload_n hx hb d_LW_alike_3 rfl (lv_at hl 1 rfl) ?_
  refine lv_iload_n hx hb d_LW_alike_4 rfl (lv_at hl 2 rfl) ?_
  have hP0 : va_P D o_cls (o_cw ad ca rt Sj T0 T1 Rd Pg Pt Mk Lk Ck Jd Ld Pr) s.heap := hP.sub [1, 2, 3, 4, 5, 6, 7, 8, 9, 10, 11, 12, 13, 14, 15, 16, 17, 18, 19, 20, 21, 22, 23, 24, 25, 26, 27, 28, 29, 30, 31, 32, 33, 34, 35, 36, 37, 38, 39, 40, 41, 42, 43, 44, 45, 46, 47, 48, 49, 50, 51, 52, 53, 54, 55, 56, 57] rfl
  have hD0 : va_D A (o_cw ad ca rt Sj T0 T1 Rd Pg Pt Mk Lk Ck Jd Ld Pr) := hD.sub [1, 2, 3, 4, 5, 6, 7, 8, 9, 10, 11, 12, 13, 14, 15, 16, 17, 18, 19, 20, 21, 22, 23, 24, 25, 26, 27, 28, 29, 30, 31, 32, 33, 34, 35, 36, 37, 38, 39, 40, 41, 42, 43, 44, 45, 46, 47, 48, 49, 50, 51, 52, 53, 54, 55, 56, 57] rfl rfl
  have hK0 : va_K D o_cls (o_tys ca) s := hK.sub [1, 2, 3, 4, 5, 6, 7, 8, 9, 10, 11, 12, 13, 14, 15, 16, 17, 18, 19, 20, 21, 22, 23, 24, 25, 26, 27, 28, 29, 30, 31, 32, 33, 34, 35, 36, 37, 38, 39, 40, 41, 42, 43, 44, 45] rfl
  have hj : ∀ H1 : Heap, va_P D o_cls (o_cw ad ca rt Sj T0 T1 Rd Pg Pt Mk Lk Ck Jd Ld Pr) H1 → (∀ q : Nat, q < s.heap.size → ¬ va_A (o_cw ad ca rt Sj T0 T1 Rd Pg Pt Mk Lk Ck Jd Ld Pr) s.heap.size q → H1[q]? = s.heap[q]?) → va_P D o_cls ((o, .inl (cO, 1, .inr (.inl f))) :: o_cw ad ca rt Sj T0 T1 Rd Pg Pt Mk Lk Ck Jd Ld Pr) H1 := fun H1 h1 hk => (va_join (wr := [(o, .inl (cO, 1, .inr (.inl f)))]) hP hD [1, 2, 3, 4, 5, 6, 7, 8, 9, 10, 11, 12, 13, 14, 15, 16, 17, 18, 19, 20, 21, 22, 23, 24, 25, 26, 27, 28, 29, 30, 31, 32, 33, 34, 35, 36, 37, 38, 39, 40, 41, 42, 43, 44, 45, 46, 47, 48, 49, 50, 51, 52, 53, 54, 55, 56, 57] [0] rfl rfl rfl (by decide) hk (va_free hD hS hA [1, 2, 3, 4, 5, 6, 7, 8, 9, 10, 11, 12, 13, 14, 15, 16, 17, 18, 19, 20, 21, 22, 23, 24, 25, 26, 27, 28, 29, 30, 31, 32, 33, 34, 35, 36, 37, 38, 39, 40, 41, 42, 43, 44, 45, 46, 47, 48, 49, 50, 51, 52, 53, 54, 55, 56, 57] rfl) h1 (o_D_map hD0.self rfl)).1
  refine o_VT (rest := [.int (0:Int32), .ref o]) (As := [.int x1, .int x2]) hE.1 C (c_SJ_alike hE hT l hfl n x1 x2 T1 Sj T0 Rd Pg Pt Mk Lk Ck Jd Ld Pr rt h) hK0 hP0 hD0 hS hl.1 rfl cw_0 k_7_55 k_7_56 k_7_57 k_1_1 k_7_58 hv_SJ_alike rfl rfl ⟨(Nat.le_of_ble_eq_true rfl), (Nat.le_of_ble_eq_true rfl)⟩ rfl (Nat.le_of_ble_eq_true rfl) ⟨(Nat.le_of_ble_eq_true rfl), (Nat.le_of_ble_eq_true rfl)⟩ d_LW_alike_5 ?_ ?_
  · exact fun hz => absurd (show (1 : Nat) = 0 from hz) (by decide)
  · intro hz H locs x cell hP1 hk hS hxc hxv hxf
    replace hP := hj H hP1 hk
    refine o_catch1 (Xn := "java/lang/IndexOutOfBoundsException") hown htab (by decide) (by decide) (by decide) (hts _ k_2_163) (o_dv_cast k_2_173 _ _ hts) hxc hxv hxf ?_
    refine lv_astore (lv' := [(4, .ref x)]) hx hb d_LW_alike_20 (lv_sub hl [] rfl) (by decide) rfl (fun ls hl => ?_)
    refine lv_iconst (v := (1:Int32)) hx hb d_LW_alike_22 (by decide) ?_
    exact o_ri C hP hS d_LW_alike_23
abbrev hh_LW_matches : List (Nat × Nat × Nat × Nat) := [(0, 17, 20, 13), (0, 17, 24, 19)]
abbrev cw_LW_matches : Cond := Cond.codeWith y_LW_matches b_LW_matches 5 (some .int) hh_LW_matches
theorem kw_LW_matches : cw_LW_matches ∈ o_WS := k_7_62
abbrev rm_LW_matches : Room := { frames := 15, cells := 1, slots := 6, locals := 362 }
theorem hs_LW_matches : y_LW_matches.cls ≠ "java/lang/invoke/MethodHandle" ∧ y_LW_matches.cls ≠ "java/lang/invoke/VarHandle" ∧ (parseMethodDescriptor y_LW_matches.desc).map (fun d => d.parameters.length) = some 4 := by decide +kernel
set_option maxHeartbeats 4000000 in
set_option maxRecDepth 100000 in
theorem lh_matches_0 {E : (Nat → Prop) → State → Heap → Prop} {D : va_G} {ad kd sd vd xd : Nat → Nat} {ca : Nat → ClassId} {cO : ClassId} {o : Nat} (hE : o_EK E kd sd vd xd) (hT : o_ET E) (l : Launch) (hfl : l.flags = pinnedFlags ++ [noTraceFlag]) (n : Nat) (x1 : Int32) (x2 : Int32) (Sj : SSJ) (T0 : STx) (T1 : STx) (Rd : SRd) (Pg : SPg) (Pt : SPt) (Mk : SMk) (Lk : SLk) (Ck : SCk) (Jd : SJd) (Ld : SLd) (Pr : SPr) (Pg' : SPg) (Pt' : SPt) (rt : Nat) (v : Int32) (f : Nat → Int64) (h : m_SJ_matches n x1 x2 T1 Pg Pt = some (0, v, Pg', Pt')) : o_Cw E l D o_cls ((cO, .long) :: o_tys ca) y_LW_matches cw_LW_matches rm_LW_matches [.ref (ad 0), .int x1, .int x2, .ref o] ((o, .inl (cO, 1, .inr (.inl f))) :: o_cw ad ca rt Sj T0 T1 Rd Pg Pt Mk Lk Ck Jd Ld Pr) ((o, .inl (cO, 1, .inr (.inl (vp_updL f 0 (if v = 0 then 0 else 1))))) :: o_cw ad ca rt Sj T0 T1 Rd Pg' Pt' Mk Lk Ck Jd Ld Pr) (some (.int 0)) := by
  refine o_Cw_of (by decide) (Nat.le_of_ble_eq_true rfl) ?_
  intro p e s m below meth c A ls htab C hD hP hS hl
  have hl : lv_has ls 5 [(0, .ref (ad 0)), (1, .int x1), (2, .int x2), (3, .ref o)] := hl
  have C0 := C
  obtain ⟨hx, hb, -, -, -, hown, hts, hK, hA, -⟩ := C0
  refine lv_aload_n hx hb d_LW_matches_0 rfl (lv_at hl 3 rfl) ?_
  refine lv_iconst (v := (0:Int32)) hx hb d_LW_matches_1 (by decide) ?_
  refine lv_aload_n hx hb d_LW_matches_2 rfl (lv_at hl 0 rfl) ?_
  refine lv_iload_n hx hb d_LW_matches_3 rfl (lv_at hl 1 rfl) ?_
  refine lv_iload_n hx hb d_LW_matches_4 rfl (lv_at hl 2 rfl) ?_
  have hP0 : va_P D o_cls (o_cw ad ca rt Sj T0 T1 Rd Pg Pt Mk Lk Ck Jd Ld Pr) s.heap := hP.sub [1, 2, 3, 4, 5, 6, 7, 8, 9, 10, 11, 12, 13, 14, 15, 16, 17, 18, 19, 20, 21, 22, 23, 24, 25, 26, 27, 28, 29, 30, 31, 32, 33, 34, 35, 36, 37, 38, 39, 40, 41, 42, 43, 44, 45, 46, 47, 48, 49, 50, 51, 52, 53, 54, 55, 56, 57] rfl
  have hD0 : va_D A (o_cw ad ca rt Sj T0 T1 Rd Pg Pt Mk Lk Ck Jd Ld Pr) := hD.sub [1, 2, 3, 4, 5, 6, 7, 8, 9, 10, 11, 12, 13, 14, 15, 16, 17, 18, 19, 20, 21, 22, 23, 24, 25, 26, 27, 28, 29, 30, 31, 32, 33, 34, 35, 36, 37, 38, 39, 40, 41, 42, 43, 44, 45, 46, 47, 48, 49, 50, 51, 52, 53, 54, 55, 56, 57] rfl rfl
  have hK0 : va_K D o_cls (o_tys ca) s := hK.sub [1, 2, 3, 4, 5, 6, 7, 8, 9, 10, 11, 12, 13, 14, 15, 16, 17, 18, 19, 20, 21, 22, 23, 24, 25, 26, 27, 28, 29, 30, 31, 32, 33, 34, 35, 36, 37, 38, 39, 40, 41, 42, 43, 44, 45] rfl
  have hj : ∀ H1 : Heap, va_P D o_cls (o_cw ad ca rt Sj T0 T1 Rd Pg' Pt' Mk Lk Ck Jd Ld Pr) H1 → (∀ q : Nat, q < s.heap.size → ¬ va_A (o_cw ad ca rt Sj T0 T1 Rd Pg Pt Mk Lk Ck Jd Ld Pr) s.heap.size q → H1[q]? = s.heap[q]?) → va_P D o_cls ((o, .inl (cO, 1, .inr (.inl f))) :: o_cw ad ca rt Sj T0 T1 Rd Pg' Pt' Mk Lk Ck Jd Ld Pr) H1 := fun H1 h1 hk => (va_join (wr := [(o, .inl (cO, 1, .inr (.inl f)))]) hP hD [1, 2, 3, 4, 5, 6, 7, 8, 9, 10, 11, 12, 13, 14, 15, 16, 17, 18, 19, 20, 21, 22, 23, 24, 25, 26, 27, 28, 29, 30, 31, 32, 33, 34, 35, 36, 37, 38, 39, 40, 41, 42, 43, 44, 45, 46, 47, 48, 49, 50, 51, 52, 53, 54, 55, 56, 57] [0] rfl rfl rfl (by decide) hk (va_free hD hS hA [1, 2, 3, 4, 5, 6, 7, 8, 9, 10, 11, 12, 13, 14, 15, 16, 17, 18, 19, 20, 21, 22, 23, 24, 25, 26, 27, 28, 29, 30, 31, 32, 33, 34, 35, 36, 37, 38, 39, 40, 41, 42, 43, 44, 45, 46, 47, 48, 49, 50, 51, 52, 53, 54, 55, 56, 57] rfl) h1 (o_D_map hD0.self rfl)).1
  refine o_VT (rest := [.int (0:Int32), .ref o]) (As := [.int x1, .int x2]) hE.1 C (c_SJ_matches hE hT l hfl n x1 x2 T1 Pg Pt Sj T0 Rd Mk Lk Ck Jd Ld Pr rt h) hK0 hP0 hD0 hS hl.1 rfl cw_0 k_7_63 k_7_64 k_7_65 k_1_1 k_7_66 hv_SJ_matches rfl rfl ⟨(Nat.le_of_ble_eq_true rfl), (Nat.le_of_ble_eq_true rfl)⟩ rfl (Nat.le_of_ble_eq_true rfl) ⟨(Nat.le_of_ble_eq_true rfl), (Nat.le_of_ble_eq_true rfl)⟩ d_LW_matches_5 ?_ ?_
  · intro _ H locs hP1 hk hS
    replace hP := hj H hP1 hk
    refine lv_if_eq (tgt := 15) hx hb d_LW_matches_8 (by decide) (fun cc => ?_) (fun cc => ?_)
    · replace hP := hP
      refine lv_lconst (v := (0:Int64)) hx hb d_LW_matches_15 (by decide) ?_
      rw [if_pos cc]
      refine o_last (f := f) (w1 := ((o, .inl (cO, 1, .inr (.inl (vp_updL f 0 (0:Int64))))) :: o_cw ad ca rt Sj T0 T1 Rd Pg' Pt' Mk Lk Ck Jd Ld Pr)) C hP (o_D_map hD rfl : va_D A ((o, .inl (cO, 1, .inr (.inl f))) :: o_cw ad ca rt Sj T0 T1 Rd Pg' Pt' Mk Lk Ck Jd Ld Pr)) hS 0 0 rfl rfl (show o_in (0:Int32) 1 = true by decide) rfl d_LW_matches_16 (fun H locs hP hS => ?_)
      refine lv_goto (tgt := 28) hx hb d_LW_matches_17 (by decide) ?_
      refine lv_iconst (v := (0:Int32)) hx hb d_LW_matches_28 (by decide) ?_
      exact o_ri C hP hS d_LW_matches_29
    · replace hP := hP
      refine lv_lconst (v := (1:Int64)) hx hb d_LW_matches_11 (by decide) ?_
      refine lv_goto (tgt := 16) hx hb d_LW_matches_12 (by decide) ?_
      rw [if_neg cc]
      refine o_last (f := f) (w1 := ((o, .inl (cO, 1, .inr (.inl (vp_updL f 0 (1:Int64))))) :: o_cw ad ca rt Sj T0 T1 Rd Pg' Pt' Mk Lk Ck Jd Ld Pr)) C hP (o_D_map hD rfl : va_D A ((o, .inl (cO, 1, .inr (.inl f))) :: o_cw ad ca rt Sj T0 T1 Rd Pg' Pt' Mk Lk Ck Jd Ld Pr)) hS 0 0 rfl rfl (show o_in (0:Int32) 1 = true by decide) rfl d_LW_matches_16 (fun H locs hP hS => ?_)
      refine lv_goto (tgt := 28) hx hb d_LW_matches_17 (by decide) ?_
      refine lv_iconst (v := (0:Int32)) hx hb d_LW_matches_28 (by decide) ?_
      exact o_ri C hP hS d_LW_matches_29
  · exact fun hz => absurd (show (0 : Nat) = 0 from rfl) hz
set_option maxHeartbeats 4000000 in
set_option maxRecDepth 100000 in
theorem lh_matches_1 {E : (Nat → Prop) → State → Heap → Prop} {D : va_G} {ad kd sd vd xd : Nat → Nat} {ca : Nat → ClassId} {cO : ClassId} {o : Nat} (hE : o_EK E kd sd vd xd) (hT : o_ET E) (l : Launch) (hfl : l.flags = pinnedFlags ++ [noTraceFlag]) (n : Nat) (x1 : Int32) (x2 : Int32) (Sj : SSJ) (T0 : STx) (T1 : STx) (Rd : SRd) (Pg : SPg) (Pt : SPt) (Mk : SMk) (Lk : SLk) (Ck : SCk) (Jd : SJd) (Ld : SLd) (Pr : SPr) (Pg' : SPg) (Pt' : SPt) (rt : Nat) (v : Int32) (f : Nat → Int64) (h : m_SJ_matches n x1 x2 T1 Pg Pt = some (1, v, Pg', Pt')) : o_Cw E l D o_cls ((cO, .long) :: o_tys ca) y_LW_matches cw_LW_matches rm_LW_matches [.ref (ad 0), .int x1, .int x2, .ref o] ((o, .inl (cO, 1, .inr (.inl f))) :: o_cw ad ca rt Sj T0 T1 Rd Pg Pt Mk Lk Ck Jd Ld Pr) ((o, .inl (cO, 1, .inr (.inl f))) :: o_cw ad ca rt Sj T0 T1 Rd Pg' Pt' Mk Lk Ck Jd Ld Pr) (some (.int 1)) := by
  refine o_Cw_of (by decide) (Nat.le_of_ble_eq_true rfl) ?_
  intro p e s m below meth c A ls htab C hD hP hS hl
  have hl : lv_has ls 5 [(0, .ref (ad 0)), (1, .int x1), (2, .int x2), (3, .ref o)] := hl
  have C0 := C
  obtain ⟨hx, hb, -, -, -, hown, hts, hK, hA, -⟩ := C0
  refine lv_aload_n hx hb d_LW_matches_0 rfl (lv_at hl 3 rfl) ?_
  refine lv_iconst (v := (0:Int32)) hx hb d_LW_matches_1 (by decide) ?_
  refine lv_aload_n hx hb d_LW_matches_2 rfl (lv_at hl 0 rfl) ?_
  refine lv_iload_n hx hb d_LW_matches_3 rfl (lv_at hl 1 rfl) ?_
  refine lv_iload_n hx hb d_LW_matches_4 rfl (lv_at hl 2 rfl) ?_
  have hP0 : va_P D o_cls (o_cw ad ca rt Sj T0 T1 Rd Pg Pt Mk Lk Ck Jd Ld Pr) s.heap := hP.sub [1, 2, 3, 4, 5, 6, 7, 8, 9, 10, 11, 12, 13, 14, 15, 16, 17, 18, 19, 20, 21, 22, 23, 24, 25, 26, 27, 28, 29, 30, 31, 32, 33, 34, 35, 36, 37, 38, 39, 40, 41, 42, 43, 44, 45, 46, 47, 48, 49, 50, 51, 52, 53, 54, 55, 56, 57] rfl
  have hD0 : va_D A (o_cw ad ca rt Sj T0 T1 Rd Pg Pt Mk Lk Ck Jd Ld Pr) := hD.sub [1, 2, 3, 4, 5, 6, 7, 8, 9, 10, 11, 12, 13, 14, 15, 16, 17, 18, 19, 20, 21, 22, 23, 24, 25, 26, 27, 28, 29, 30, 31, 32, 33, 34, 35, 36, 37, 38, 39, 40, 41, 42, 43, 44, 45, 46, 47, 48, 49, 50, 51, 52, 53, 54, 55, 56, 57] rfl rfl
  have hK0 : va_K D o_cls (o_tys ca) s := hK.sub [1, 2, 3, 4, 5, 6, 7, 8, 9, 10, 11, 12, 13, 14, 15, 16, 17, 18, 19, 20, 21, 22, 23, 24, 25, 26, 27, 28, 29, 30, 31, 32, 33, 34, 35, 36, 37, 38, 39, 40, 41, 42, 43, 44, 45] rfl
  have hj : ∀ H1 : Heap, va_P D o_cls (o_cw ad ca rt Sj T0 T1 Rd Pg' Pt' Mk Lk Ck Jd Ld Pr) H1 → (∀ q : Nat, q < s.heap.size → ¬ va_A (o_cw ad ca rt Sj T0 T1 Rd Pg Pt Mk Lk Ck Jd Ld Pr) s.heap.size q → H1[q]? = s.heap[q]?) → va_P D o_cls ((o, .inl (cO, 1, .inr (.inl f))) :: o_cw ad ca rt Sj T0 T1 Rd Pg' Pt' Mk Lk Ck Jd Ld Pr) H1 := fun H1 h1 hk => (va_join (wr := [(o, .inl (cO, 1, .inr (.inl f)))]) hP hD [1, 2, 3, 4, 5, 6, 7, 8, 9, 10, 11, 12, 13, 14, 15, 16, 17, 18, 19, 20, 21, 22, 23, 24, 25, 26, 27, 28, 29, 30, 31, 32, 33, 34, 35, 36, 37, 38, 39, 40, 41, 42, 43, 44, 45, 46, 47, 48, 49, 50, 51, 52, 53, 54, 55, 56, 57] [0] rfl rfl rfl (by decide) hk (va_free hD hS hA [1, 2, 3, 4, 5, 6, 7, 8, 9, 10, 11, 12, 13, 14, 15, 16, 17, 18, 19, 20, 21, 22, 23, 24, 25, 26, 27, 28, 29, 30, 31, 32, 33, 34, 35, 36, 37, 38, 39, 40, 41, 42, 43, 44, 45, 46, 47, 48, 49, 50, 51, 52, 53, 54, 55, 56, 57] rfl) h1 (o_D_map hD0.self rfl)).1
  refine o_VT (rest := [.int (0:Int32), .ref o]) (As := [.int x1, .int x2]) hE.1 C (c_SJ_matches hE hT l hfl n x1 x2 T1 Pg Pt Sj T0 Rd Mk Lk Ck Jd Ld Pr rt h) hK0 hP0 hD0 hS hl.1 rfl cw_0 k_7_63 k_7_64 k_7_65 k_1_1 k_7_66 hv_SJ_matches rfl rfl ⟨(Nat.le_of_ble_eq_true rfl), (Nat.le_of_ble_eq_true rfl)⟩ rfl (Nat.le_of_ble_eq_true rfl) ⟨(Nat.le_of_ble_eq_true rfl), (Nat.le_of_ble_eq_true rfl)⟩ d_LW_matches_5 ?_ ?_
  · exact fun hz => absurd (show (1 : Nat) = 0 from hz) (by decide)
  · intro hz H locs x cell hP1 hk hS hxc hxv hxf
    replace hP := hj H hP1 hk
    refine o_catch1 (Xn := "java/lang/IndexOutOfBoundsException") hown htab (by decide) (by decide) (by decide) (hts _ k_2_163) (o_dv_cast k_2_173 _ _ hts) hxc hxv hxf ?_
    refine lv_astore (lv' := [(4, .ref x)]) hx hb d_LW_matches_20 (lv_sub hl [] rfl) (by decide) rfl (fun ls hl => ?_)
    refine lv_iconst (v := (1:Int32)) hx hb d_LW_matches_22 (by decide) ?_
    exact o_ri C hP hS d_LW_matches_23
set_option maxHeartbeats 4000000 in
set_option maxRecDepth 100000 in
theorem lh_matches_2 {E : (Nat → Prop) → State → Heap → Prop} {D : va_G} {ad kd sd vd xd : Nat → Nat} {ca : Nat → ClassId} {cO : ClassId} {o : Nat} (hE : o_EK E kd sd vd xd) (hT : o_ET E) (l : Launch) (hfl : l.flags = pinnedFlags ++ [noTraceFlag]) (n : Nat) (x1 : Int32) (x2 : Int32) (Sj : SSJ) (T0 : STx) (T1 : STx) (Rd : SRd) (Pg : SPg) (Pt : SPt) (Mk : SMk) (Lk : SLk) (Ck : SCk) (Jd : SJd) (Ld : SLd) (Pr : SPr) (Pg' : SPg) (Pt' : SPt) (rt : Nat) (v : Int32) (f : Nat → Int64) (h : m_SJ_matches n x1 x2 T1 Pg Pt = some (2, v, Pg', Pt')) : o_Cw E l D o_cls ((cO, .long) :: o_tys ca) y_LW_matches cw_LW_matches rm_LW_matches [.ref (ad 0), .int x1, .int x2, .ref o] ((o, .inl (cO, 1, .inr (.inl f))) :: o_cw ad ca rt Sj T0 T1 Rd Pg Pt Mk Lk Ck Jd Ld Pr) ((o, .inl (cO, 1, .inr (.inl f))) :: o_cw ad ca rt Sj T0 T1 Rd Pg' Pt' Mk Lk Ck Jd Ld Pr) (some (.int 2)) := by
  refine o_Cw_of (by decide) (Nat.le_of_ble_eq_true rfl) ?_
  intro p e s m below meth c A ls htab C hD hP hS hl
  have hl : lv_has ls 5 [(0, .ref (ad 0)), (1, .int x1), (2, .int x2), (3, .ref o)] := hl
  have C0 := C
  obtain ⟨hx, hb, -, -, -, hown, hts, hK, hA, -⟩ := C0
  refine lv_aload_n hx hb d_LW_matches_0 rfl (lv_at hl 3 rfl) ?_
  refine lv_iconst (v := (0:Int32)) hx hb d_LW_matches_1 (by decide) ?_
  refine lv_aload_n hx hb d_LW_matches_2 rfl (lv_at hl 0 rfl) ?_
  refine lv_iload_n hx hb d_LW_matches_3 rfl (lv_at hl 1 rfl) ?_
  refine lv_iload_n hx hb d_LW_matches_4 rfl (lv_at hl 2 rfl) ?_
  have hP0 : va_P D o_cls (o_cw ad ca rt Sj T0 T1 Rd Pg Pt Mk Lk Ck Jd Ld Pr) s.heap := hP.sub [1, 2, 3, 4, 5, 6, 7, 8, 9, 10, 11, 12, 13, 14, 15, 16, 17, 18, 19, 20, 21, 22, 23, 24, 25, 26, 27, 28, 29, 30, 31, 32, 33, 34, 35, 36, 37, 38, 39, 40, 41, 42, 43, 44, 45, 46, 47, 48, 49, 50, 51, 52, 53, 54, 55, 56, 57] rfl
  have hD0 : va_D A (o_cw ad ca rt Sj T0 T1 Rd Pg Pt Mk Lk Ck Jd Ld Pr) := hD.sub [1, 2, 3, 4, 5, 6, 7, 8, 9, 10, 11, 12, 13, 14, 15, 16, 17, 18, 19, 20, 21, 22, 23, 24, 25, 26, 27, 28, 29, 30, 31, 32, 33, 34, 35, 36, 37, 38, 39, 40, 41, 42, 43, 44, 45, 46, 47, 48, 49, 50, 51, 52, 53, 54, 55, 56, 57] rfl rfl
  have hK0 : va_K D o_cls (o_tys ca) s := hK.sub [1, 2, 3, 4, 5, 6, 7, 8, 9, 10, 11, 12, 13, 14, 15, 16, 17, 18, 19, 20, 21, 22, 23, 24, 25, 26, 27, 28, 29, 30, 31, 32, 33, 34, 35, 36, 37, 38, 39, 40, 41, 42, 43, 44, 45] rfl
  have hj : ∀ H1 : Heap, va_P D o_cls (o_cw ad ca rt Sj T0 T1 Rd Pg' Pt' Mk Lk Ck Jd Ld Pr) H1 → (∀ q : Nat, q < s.heap.size → ¬ va_A (o_cw ad ca rt Sj T0 T1 Rd Pg Pt Mk Lk Ck Jd Ld Pr) s.heap.size q → H1[q]? = s.heap[q]?) → va_P D o_cls ((o, .inl (cO, 1, .inr (.inl f))) :: o_cw ad ca rt Sj T0 T1 Rd Pg' Pt' Mk Lk Ck Jd Ld Pr) H1 := fun H1 h1 hk => (va_join (wr := [(o, .inl (cO, 1, .inr (.inl f)))]) hP hD [1, 2, 3, 4, 5, 6, 7, 8, 9, 10, 11, 12, 13, 14, 15, 16, 17, 18, 19, 20, 21, 22, 23, 24, 25, 26, 27, 28, 29, 30, 31, 32, 33, 34, 35, 36, 37, 38, 39, 40, 41, 42, 43, 44, 45, 46, 47, 48, 49, 50, 51, 52, 53, 54, 55, 56, 57] [0] rfl rfl rfl (by decide) hk (va_free hD hS hA [1, 2, 3, 4, 5, 6, 7, 8, 9, 10, 11, 12, 13, 14, 15, 16, 17, 18, 19, 20, 21, 22, 23, 24, 25, 26, 27, 28, 29, 30, 31, 32, 33, 34, 35, 36, 37, 38, 39, 40, 41, 42, 43, 44, 45, 46, 47, 48, 49, 50, 51, 52, 53, 54, 55, 56, 57] rfl) h1 (o_D_map hD0.self rfl)).1
  refine o_VT (rest := [.int (0:Int32), .ref o]) (As := [.int x1, .int x2]) hE.1 C (c_SJ_matches hE hT l hfl n x1 x2 T1 Pg Pt Sj T0 Rd Mk Lk Ck Jd Ld Pr rt h) hK0 hP0 hD0 hS hl.1 rfl cw_0 k_7_63 k_7_64 k_7_65 k_1_1 k_7_66 hv_SJ_matches rfl rfl ⟨(Nat.le_of_ble_eq_true rfl), (Nat.le_of_ble_eq_true rfl)⟩ rfl (Nat.le_of_ble_eq_true rfl) ⟨(Nat.le_of_ble_eq_true rfl), (Nat.le_of_ble_eq_true rfl)⟩ d_LW_matches_5 ?_ ?_
  · exact fun hz => absurd (show (2 : Nat) = 0 from hz) (by decide)
  · intro hz H locs x cell hP1 hk hS hxc hxv hxf
    replace hP := hj H hP1 hk
    refine o_catch2 (Xn := "java/lang/IllegalArgumentException") hown htab (by decide) (by decide) (by decide) (by decide) (by decide) (by decide) (hts _ k_2_163) (hts _ k_3_12) (o_dv_cast k_3_230 _ _ hts) (fun c1 h1 => (hT _ _ _ C.2.2.2.2.2.2.2.2.2).2.2.1 _ _ hxf h1) hxc hxv hxf ?_
    refine lv_astore (lv' := [(4, .ref x)]) hx hb d_LW_matches_24 (lv_sub hl [] rfl) (by decide) rfl (fun ls hl => ?_)
    refine lv_iconst (v := (2:Int32)) hx hb d_LW_matches_26 (by decide) ?_
    exact o_ri C hP hS d_LW_matches_27
abbrev hh_LW_count : List (Nat × Nat × Nat × Nat) := [(0, 9, 12, 19)]
abbrev cw_LW_count : Cond := Cond.codeWith y_LW_count b_LW_count 4 (some .int) hh_LW_count
theorem kw_LW_count : cw_LW_count ∈ o_WS := k_7_74
abbrev rm_LW_count : Room := { frames := 9, cells := 1, slots := 6, locals := 221 }
theorem hs_LW_count : y_LW_count.cls ≠ "java/lang/invoke/MethodHandle" ∧ y_LW_count.cls ≠ "java/lang/invoke/VarHandle" ∧ (parseMethodDescriptor y_LW_count.desc).map (fun d => d.parameters.length) = some 3 := by decide +kernel
set_option maxHeartbeats 4000000 in
set_option maxRecDepth 100000 in
theorem lh_count_0 {E : (Nat → Prop) → State → Heap → Prop} {D : va_G} {ad kd sd vd xd : Nat → Nat} {ca : Nat → ClassId} {cO : ClassId} {o : Nat} (hE : o_EK E kd sd vd xd) (hT : o_ET E) (l : Launch) (hfl : l.flags = pinnedFlags ++ [noTraceFlag]) (x1 : Int32) (Sj : SSJ) (T0 : STx) (T1 : STx) (Rd : SRd) (Pg : SPg) (Pt : SPt) (Mk : SMk) (Lk : SLk) (Ck : SCk) (Jd : SJd) (Ld : SLd) (Pr : SPr) (rt : Nat) (v : Int32) (f : Nat → Int64) (h : m_SJ_count x1 T0 T1 Jd = some (0, v)) : o_Cw E l D o_cls ((cO, .long) :: o_tys ca) y_LW_count cw_LW_count rm_LW_count [.ref (ad 0), .int x1, .ref o] ((o, .inl (cO, 1, .inr (.inl f))) :: o_cw ad ca rt Sj T0 T1 Rd Pg Pt Mk Lk Ck Jd Ld Pr) ((o, .inl (cO, 1, .inr (.inl (vp_updL f 0 v.toInt64)))) :: o_cw ad ca rt Sj T0 T1 Rd Pg Pt Mk Lk Ck Jd Ld Pr) (some (.int 0)) := by
  refine o_Cw_of (by decide) (Nat.le_of_ble_eq_true rfl) ?_
  intro p e s m below meth c A ls htab C hD hP hS hl
  have hl : lv_has ls 4 [(0, .ref (ad 0)), (1, .int x1), (2, .ref o)] := hl
  have C0 := C
  obtain ⟨hx, hb, -, -, -, hown, hts, hK, hA, -⟩ := C0
  refine lv_aload_n hx hb d_LW_count_0 rfl (lv_at hl 2 rfl) ?_
  refine lv_iconst (v := (0:Int32)) hx hb d_LW_count_1 (by decide) ?_
  refine lv_aload_n hx hb d_LW_count_2 rfl (lv_at hl 0 rfl) ?_
  refine lv_iload_n hx hb d_LW_count_3 rfl (lv_at hl 1 rfl) ?_
  have hP0 : va_P D o_cls (o_cw ad ca rt Sj T0 T1 Rd Pg Pt Mk Lk Ck Jd Ld Pr) s.heap := hP.sub [1, 2, 3, 4, 5, 6, 7, 8, 9, 10, 11, 12, 13, 14, 15, 16, 17, 18, 19, 20, 21, 22, 23, 24, 25, 26, 27, 28, 29, 30, 31, 32, 33, 34, 35, 36, 37, 38, 39, 40, 41, 42, 43, 44, 45, 46, 47, 48, 49, 50, 51, 52, 53, 54, 55, 56, 57] rfl
  have hD0 : va_D A (o_cw ad ca rt Sj T0 T1 Rd Pg Pt Mk Lk Ck Jd Ld Pr) := hD.sub [1, 2, 3, 4, 5, 6, 7, 8, 9, 10, 11, 12, 13, 14, 15, 16, 17, 18, 19, 20, 21, 22, 23, 24, 25, 26, 27, 28, 29, 30, 31, 32, 33, 34, 35, 36, 37, 38, 39, 40, 41, 42, 43, 44, 45, 46, 47, 48, 49, 50, 51, 52, 53, 54, 55, 56, 57] rfl rfl
  have hK0 : va_K D o_cls (o_tys ca) s := hK.sub [1, 2, 3, 4, 5, 6, 7, 8, 9, 10, 11, 12, 13, 14, 15, 16, 17, 18, 19, 20, 21, 22, 23, 24, 25, 26, 27, 28, 29, 30, 31, 32, 33, 34, 35, 36, 37, 38, 39, 40, 41, 42, 43, 44, 45] rfl
  have hj : ∀ H1 : Heap, va_P D o_cls (o_cw ad ca rt Sj T0 T1 Rd Pg Pt Mk Lk Ck Jd Ld Pr) H1 → (∀ q : Nat, q < s.heap.size → ¬ va_A (o_cw ad ca rt Sj T0 T1 Rd Pg Pt Mk Lk Ck Jd Ld Pr) s.heap.size q → H1[q]? = s.heap[q]?) → va_P D o_cls ((o, .inl (cO, 1, .inr (.inl f))) :: o_cw ad ca rt Sj T0 T1 Rd Pg Pt Mk Lk Ck Jd Ld Pr) H1 := fun H1 h1 hk => (va_join (wr := [(o, .inl (cO, 1, .inr (.inl f)))]) hP hD [1, 2, 3, 4, 5, 6, 7, 8, 9, 10, 11, 12, 13, 14, 15, 16, 17, 18, 19, 20, 21, 22, 23, 24, 25, 26, 27, 28, 29, 30, 31, 32, 33, 34, 35, 36, 37, 38, 39, 40, 41, 42, 43, 44, 45, 46, 47, 48, 49, 50, 51, 52, 53, 54, 55, 56, 57] [0] rfl rfl rfl (by decide) hk (va_free hD hS hA [1, 2, 3, 4, 5, 6, 7, 8, 9, 10, 11, 12, 13, 14, 15, 16, 17, 18, 19, 20, 21, 22, 23, 24, 25, 26, 27, 28, 29, 30, 31, 32, 33, 34, 35, 36, 37, 38, 39, 40, 41, 42, 43, 44, 45, 46, 47, 48, 49, 50, 51, 52, 53, 54, 55, 56, 57] rfl) h1 (o_D_map hD0.self rfl)).1
  refine o_VT (rest := [.int (0:Int32), .ref o]) (As := [.int x1]) hE.1 C (c_SJ_count hE hT l hfl x1 T0 T1 Jd Sj Rd Pg Pt Mk Lk Ck Ld Pr rt h) hK0 hP0 hD0 hS hl.1 rfl cw_0 k_7_75 k_7_76 k_7_77 k_1_1 k_7_78 hv_SJ_count rfl rfl ⟨(Nat.le_of_ble_eq_true rfl), (Nat.le_of_ble_eq_true rfl)⟩ rfl (Nat.le_of_ble_eq_true rfl) ⟨(Nat.le_of_ble_eq_true rfl), (Nat.le_of_ble_eq_true rfl)⟩ d_LW_count_4 ?_ ?_
  · intro _ H locs hP1 hk hS
    replace hP := hj H hP1 hk
    refine lv_i2l hx hb d_LW_count_7 rfl ?_
    refine o_last (f := f) (w1 := ((o, .inl (cO, 1, .inr (.inl (vp_updL f 0 v.toInt64)))) :: o_cw ad ca rt Sj T0 T1 Rd Pg Pt Mk Lk Ck Jd Ld Pr)) C hP (o_D_map hD rfl : va_D A ((o, .inl (cO, 1, .inr (.inl f))) :: o_cw ad ca rt Sj T0 T1 Rd Pg Pt Mk Lk Ck Jd Ld Pr)) hS 0 0 rfl rfl (show o_in (0:Int32) 1 = true by decide) rfl d_LW_count_8 (fun H locs hP hS => ?_)
    refine lv_goto (tgt := 15) hx hb d_LW_count_9 (by decide) ?_
    refine lv_iconst (v := (0:Int32)) hx hb d_LW_count_15 (by decide) ?_
    exact o_ri C hP hS d_LW_count_16
  · exact fun hz => absurd (show (0 : Nat) = 0 from rfl) hz
set_option maxHeartbeats 4000000 in
set_option maxRecDepth 100000 in
theorem lh_count_2 {E : (Nat → Prop) → State → Heap → Prop} {D : va_G} {ad kd sd vd xd : Nat → Nat} {ca : Nat → ClassId} {cO : ClassId} {o : Nat} (hE : o_EK E kd sd vd xd) (hT : o_ET E) (l : Launch) (hfl : l.flags = pinnedFlags ++ [noTraceFlag]) (x1 : Int32) (Sj : SSJ) (T0 : STx) (T1 : STx) (Rd : SRd) (Pg : SPg) (Pt : SPt) (Mk : SMk) (Lk : SLk) (Ck : SCk) (Jd : SJd) (Ld : SLd) (Pr : SPr) (rt : Nat) (v : Int32) (f : Nat → Int64) (h : m_SJ_count x1 T0 T1 Jd = some (2, v)) : o_Cw E l D o_cls ((cO, .long) :: o_tys ca) y_LW_count cw_LW_count rm_LW_count [.ref (ad 0), .int x1, .ref o] ((o, .inl (cO, 1, .inr (.inl f))) :: o_cw ad ca rt Sj T0 T1 Rd Pg Pt Mk Lk Ck Jd Ld Pr) ((o, .inl (cO, 1, .inr (.inl f))) :: o_cw ad ca rt Sj T0 T1 Rd Pg Pt Mk Lk Ck Jd Ld Pr) (some (.int 1)) := by
  refine o_Cw_of (by decide) (Nat.le_of_ble_eq_true rfl) ?_
  intro p e s m below meth c A ls htab C hD hP hS hl
  have hl : lv_has ls 4 [(0, .ref (ad 0)), (1, .int x1), (2, .ref o)] := hl
  have C0 := C
  obtain ⟨hx, hb, -, -, -, hown, hts, hK, hA, -⟩ := C0
  refine lv_aload_n hx hb d_LW_count_0 rfl (lv_at hl 2 rfl) ?_
  refine lv_iconst (v := (0:Int32)) hx hb d_LW_count_1 (by decide) ?_
  refine lv_aload_n hx hb d_LW_count_2 rfl (lv_at hl 0 rfl) ?_
  refine lv_iload_n hx hb d_LW_count_3 rfl (lv_at hl 1 rfl) ?_
  have hP0 : va_P D o_cls (o_cw ad ca rt Sj T0 T1 Rd Pg Pt Mk Lk Ck Jd Ld Pr) s.heap := hP.sub [1, 2, 3, 4, 5, 6, 7, 8, 9, 10, 11, 12, 13, 14, 15, 16, 17, 18, 19, 20, 21, 22, 23, 24, 25, 26, 27, 28, 29, 30, 31, 32, 33, 34, 35, 36, 37, 38, 39, 40, 41, 42, 43, 44, 45, 46, 47, 48, 49, 50, 51, 52, 53, 54, 55, 56, 57] rfl
  have hD0 : va_D A (o_cw ad ca rt Sj T0 T1 Rd Pg Pt Mk Lk Ck Jd Ld Pr) := hD.sub [1, 2, 3, 4, 5, 6, 7, 8, 9, 10, 11, 12, 13, 14, 15, 16, 17, 18, 19, 20, 21, 22, 23, 24, 25, 26, 27, 28, 29, 30, 31, 32, 33, 34, 35, 36, 37, 38, 39, 40, 41, 42, 43, 44, 45, 46, 47, 48, 49, 50, 51, 52, 53, 54, 55, 56, 57] rfl rfl
  have hK0 : va_K D o_cls (o_tys ca) s := hK.sub [1, 2, 3, 4, 5, 6, 7, 8, 9, 10, 11, 12, 13, 14, 15, 16, 17, 18, 19, 20, 21, 22, 23, 24, 25, 26, 27, 28, 29, 30, 31, 32, 33, 34, 35, 36, 37, 38, 39, 40, 41, 42, 43, 44, 45] rfl
  have hj : ∀ H1 : Heap, va_P D o_cls (o_cw ad ca rt Sj T0 T1 Rd Pg Pt Mk Lk Ck Jd Ld Pr) H1 → (∀ q : Nat, q < s.heap.size → ¬ va_A (o_cw ad ca rt Sj T0 T1 Rd Pg Pt Mk Lk Ck Jd Ld Pr) s.heap.size q → H1[q]? = s.heap[q]?) → va_P D o_cls ((o, .inl (cO, 1, .inr (.inl f))) :: o_cw ad ca rt Sj T0 T1 Rd Pg Pt Mk Lk Ck Jd Ld Pr) H1 := fun H1 h1 hk => (va_join (wr := [(o, .inl (cO, 1, .inr (.inl f)))]) hP hD [1, 2, 3, 4, 5, 6, 7, 8, 9, 10, 11, 12, 13, 14, 15, 16, 17, 18, 19, 20, 21, 22, 23, 24, 25, 26, 27, 28, 29, 30, 31, 32, 33, 34, 35, 36, 37, 38, 39, 40, 41, 42, 43, 44, 45, 46, 47, 48, 49, 50, 51, 52, 53, 54, 55, 56, 57] [0] rfl rfl rfl (by decide) hk (va_free hD hS hA [1, 2, 3, 4, 5, 6, 7, 8, 9, 10, 11, 12, 13, 14, 15, 16, 17, 18, 19, 20, 21, 22, 23, 24, 25, 26, 27, 28, 29, 30, 31, 32, 33, 34, 35, 36, 37, 38, 39, 40, 41, 42, 43, 44, 45, 46, 47, 48, 49, 50, 51, 52, 53, 54, 55, 56, 57] rfl) h1 (o_D_map hD0.self rfl)).1
  refine o_VT (rest := [.int (0:Int32), .ref o]) (As := [.int x1]) hE.1 C (c_SJ_count hE hT l hfl x1 T0 T1 Jd Sj Rd Pg Pt Mk Lk Ck Ld Pr rt h) hK0 hP0 hD0 hS hl.1 rfl cw_0 k_7_75 k_7_76 k_7_77 k_1_1 k_7_78 hv_SJ_count rfl rfl ⟨(Nat.le_of_ble_eq_true rfl), (Nat.le_of_ble_eq_true rfl)⟩ rfl (Nat.le_of_ble_eq_true rfl) ⟨(Nat.le_of_ble_eq_true rfl), (Nat.le_of_ble_eq_true rfl)⟩ d_LW_count_4 ?_ ?_
  · exact fun hz => absurd (show (2 : Nat) = 0 from hz) (by decide)
  · intro hz H locs x cell hP1 hk hS hxc hxv hxf
    replace hP := hj H hP1 hk
    refine o_catch1 (Xn := "java/lang/IllegalArgumentException") hown htab (by decide) (by decide) (by decide) (hts _ k_3_12) (o_dv_cast k_3_230 _ _ hts) hxc hxv hxf ?_
    refine lv_astore_n (lv' := [(3, .ref x)]) hx hb d_LW_count_12 rfl (lv_sub hl [] rfl) (by decide) rfl (fun ls hl => ?_)
    refine lv_iconst (v := (1:Int32)) hx hb d_LW_count_13 (by decide) ?_
    exact o_ri C hP hS d_LW_count_14
