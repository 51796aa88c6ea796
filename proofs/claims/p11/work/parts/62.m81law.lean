/-! The law's walk: two systems and the answer's cell side by side -/
theorem o_apart {A : Nat → Prop} {w1 w2 : va_W} {n : Nat} (hD : va_D A (w1 ++ w2)) (hlt : ∀ (k : Nat) (q : Nat × va_E), w2[k]? = some q → q.1 < n) : ∀ (k : Nat) (q : Nat × va_E), w2[k]? = some q → ¬ va_A w1 n q.1 := by
  intro k q hq h
  rcases h with ⟨j, e, hj⟩ | h
  · have hjl : j < w1.length := (List.getElem?_eq_some_iff.mp hj).1
    have h1 : (w1 ++ w2)[j]? = some (q.1, e) := by rw [List.getElem?_append_left hjl]; exact hj
    have h2 : (w1 ++ w2)[w1.length + k]? = some q := by rw [List.getElem?_append_right (by omega)]; simpa using hq
    have := hD.1 j (w1.length + k) _ _ h1 h2 rfl
    omega
  · have := hlt k q hq
    omega
theorem o_keep2 {D : va_G} {cl : List vw_C} {A : Nat → Prop} {w1 w2 : va_W} {H H1 : Heap} (hD : va_D A (w1 ++ w2)) (hP : va_P D cl w2 H) (hk : ∀ q : Nat, q < H.size → ¬ va_A w1 H.size q → H1[q]? = H[q]?) : va_P D cl w2 H1 :=
  fun k q hq => (hP k q hq).kept (hk q.1 (hP k q hq).lt (o_apart hD (fun k q hq => (hP k q hq).lt) k q hq))
theorem o_Dcomm {A : Nat → Prop} {w1 w2 : va_W} (hD : va_D A (w1 ++ w2)) : va_D A (w2 ++ w1) := by
  have tr : ∀ (k : Nat) (q : Nat × va_E), (w2 ++ w1)[k]? = some q → ∃ j, (w1 ++ w2)[j]? = some q ∧ (k < w2.length → j = w1.length + k) ∧ (¬ k < w2.length → j + w2.length = k ∧ j < w1.length) := by
    intro k q h
    by_cases hk : k < w2.length
    · rw [List.getElem?_append_left hk] at h
      exact ⟨w1.length + k, by rw [List.getElem?_append_right (by omega)]; simpa using h, fun _ => rfl, fun z => absurd hk z⟩
    · rw [List.getElem?_append_right (by omega)] at h
      have hl : k - w2.length < w1.length := (List.getElem?_eq_some_iff.mp h).1
      exact ⟨k - w2.length, by rw [List.getElem?_append_left hl]; exact h, fun z => absurd z hk, fun _ => ⟨by omega, hl⟩⟩
  refine ⟨fun i j p q hi hj hpq => ?_, fun k q hk => ?_⟩
  · obtain ⟨i', h1, a1, a2⟩ := tr i p hi
    obtain ⟨j', h2, b1, b2⟩ := tr j q hj
    have e := hD.1 i' j' p q h1 h2 hpq
    by_cases x1 : i < w2.length <;> by_cases x2 : j < w2.length
    · have := a1 x1; have := b1 x2; omega
    · have := a1 x1; have := b2 x2; omega
    · have := a2 x1; have := b1 x2; omega
    · have := a2 x1; have := b2 x2; omega
  · obtain ⟨j, h1, -⟩ := tr k q hk
    exact hD.2 j q h1
theorem o_keep1 {D : va_G} {cl : List vw_C} {A : Nat → Prop} {w1 w2 : va_W} {H H1 : Heap} (hD : va_D A (w1 ++ w2)) (hP : va_P D cl w1 H) (hk : ∀ q : Nat, q < H.size → ¬ va_A w2 H.size q → H1[q]? = H[q]?) : va_P D cl w1 H1 := o_keep2 (o_Dcomm hD) hP hk
theorem o_Dl {A : Nat → Prop} {w1 w2 : va_W} (hD : va_D A (w1 ++ w2)) : va_D A w1 := by
  have l : ∀ (k : Nat) (q : Nat × va_E), w1[k]? = some q → (w1 ++ w2)[k]? = some q := fun k q h => by rw [List.getElem?_append_left ((List.getElem?_eq_some_iff.mp h).1)]; exact h
  exact ⟨fun i j p q hi hj => hD.1 i j p q (l i p hi) (l j q hj), fun k q hk => hD.2 k q (l k q hk)⟩
theorem o_Dr {A : Nat → Prop} {w1 w2 : va_W} (hD : va_D A (w1 ++ w2)) : va_D A w2 := o_Dl (o_Dcomm hD)
section OLW
variable {E : (Nat → Prop) → State → Heap → Prop} {p : Program} {l : Launch} {e : Env} {R : Room} {s : State} {m : MethodId} {args : Array Value} {below : List Frame} {meth : Method} {c : Code} {H : Heap} {locs : List Loc} {cells slots : Nat} {Q : State → Prop}
variable {pc : Nat} {ls : Array Slot} {rest st0 st1 : List Value} {A : Nat → Prop} {D : va_G} {cl : List vw_C} {tys : List (ClassId × FieldType)} {own : String} {bc bytes : ByteArray} {ret ret' : Option FieldType} {nL maxL n : Nat} {cc : Cond} {y : MethodName} {rm : Room} {w0 w1 : va_W} {r : Option Value} {index : Nat}
theorem o_VF (hE : o_Ek E) (C : o_Cx E p s m args meth c D cl tys own bc ret nL cc A) {As : List Value} {b q0 ci : Nat} {fs : List Value} {K : String × u_T × Nat} (hM : o_Cn E l D cl tys y (Cond.code y bytes maxL ret') rm (.ref b :: As) w0 w1 r)
    (hP : va_P D cl w0 H) (hD : va_D A w0) (hS : va_S A s.heap H locs) (hl : ls.size = nL) (hc : cl[ci]? = some K) (he : w0[q0]? = some (b, .inr (ci, fs)))
    (h1 : Cond.methodLink own index y ∈ o_WS) (h2 : Cond.instanceMethod y ∈ o_WS) (h3 : Cond.selects K.1 y y ∈ o_WS) (h4 : Cond.initialized K.1 ∈ o_WS) (h5 : Cond.code y bytes maxL ret' ∈ o_WS)
    (hd : y.cls = K.1 ∧ y.cls ≠ "java/lang/invoke/MethodHandle" ∧ y.cls ≠ "java/lang/invoke/VarHandle" ∧ (parseMethodDescriptor y.desc).map (fun d => d.parameters.length) = some As.length)
    (hrc : rm.cells = 0) (hrs : rm.slots = 0) (hR : rm.frames + 1 ≤ R.frames ∧ 8 + (maxL + 11) + rm.locals ≤ R.locals) (hst0 : st0 = As.reverse ++ .ref b :: rest) (hw : (rest.map fun v => v.category).sum ≤ 8) (hf : cells ≤ R.cells ∧ slots ≤ R.slots) (hst : r.toList ++ rest = st1)
    (hdg : decode bc pc = .ok (.invokevirtual index, 3))
    (kk : ∀ (H1 : Heap) (locs1 : List Loc), va_P D cl w1 H1 → (∀ q : Nat, q < H.size → ¬ va_A w0 H.size q → H1[q]? = H[q]?) → va_S A s.heap H1 locs1 → W p l e R s m args below meth c H1 locs1 cells slots Q (F0 m (pc + 3) ls st1)) : W p l e R s m args below meth c H locs cells slots Q (F0 m pc ls st0) := by
  have C0 := C
  obtain ⟨hx, hb, hr, hlk, hml, hown, hts, hK, hA, he2⟩ := C
  exact o_callF (mc := 0) (ms := 0) (va_runV (As := As) (rest := rest) (g := F0 m pc ls st0) ⟨hx, hb, hml, hown, hts⟩ (hM H.size) (cwV As.length hts (o_gV (c := cc) h1 h2 h3 h4 h5) rfl hrc hrs hd hR) ⟨o_blind hE, va_recv hK hP hc he, o_pre hE C0 (av := .ref b :: As) hP hD hS⟩ rfl rfl hl hst0 (lv_room hw) hdg ⟨by omega, by omega⟩) hS (fun q _ h => o_sub hD hA hS q h) (o_sub hD hA hS) hst kk
end OLW
theorem o_cmp0 {x y : Int64} (h : x = y) : lg_cmp x y = 0 := by
  subst h
  unfold lg_cmp
  simp
theorem o_Dl2 {A : Nat → Prop} {q : Nat × va_E} {w1 w2 : va_W} (hD : va_D A ((q :: w1) ++ w2)) : va_D A (w1 ++ w2) :=
  ⟨fun i j a b hi hj e => Nat.succ.inj (hD.1 (i + 1) (j + 1) a b hi hj e), fun k a hk => hD.2 (k + 1) a hk⟩
set_option maxHeartbeats 4000000 in
set_option maxRecDepth 100000 in
theorem la_feed_0 {E : (Nat → Prop) → State → Heap → Prop} {p : Program} {l : Launch} {e : Env} {s : State} {m : MethodId} {args : Array Value} {below : List Frame} {meth : Method} {c : Code} {D1 D2 : va_G} {ad ad2 kd sd vd xd : Nat → Nat} {ca ca2 : Nat → ClassId} {ky ty : Nat → Option Nat} {cO : ClassId} {o b L : Nat} {xs : Nat → Int32} {A : Nat → Prop} {Q : State → Prop} {H : Heap} {locs : List Loc} {cells slots : Nat} {ls : Array Slot} {i : Int32} (hE : o_EK E kd sd vd xd) (hKy : m_KY ky ty sd) (hT : o_ET E) (hfl : l.flags = pinnedFlags ++ [noTraceFlag]) (C1 : o_Cx E p s m args meth c D1 o_cls ((cO, .long) :: o_tys ca) "SchemaJudgeLaw" code (some .boolean) 7 (.tt) A) (C1a : o_Cx E p s m args meth c D1 o_cls (o_tys ca) "SchemaJudgeLaw" code (some .boolean) 7 (.tt) A) (C2 : o_Cx E p s m args meth c D2 m_cls (m_tys ca2) "SchemaJudgeLaw" code (some .boolean) 7 (.tt) A) (hX : va_X b L xs s s.heap) (hbl : b < s.heap.size) (hbA : ¬ A b) (hDD : ∀ (f : Nat → Int64) (rt : Nat) (Sj : SSJ) (T0 : STx) (T1 : STx) (Rd : SRd) (Pg : SPg) (Pt : SPt) (Mk : SMk) (Lk : SLk) (Ck : SCk) (Jd : SJd) (Ld : SLd) (Pr : SPr) (rt2 : Nat) (Ni : SNI) (Np : SNP) (No : SNO) (Nx : SNX) (Nf : SNF) (Na : SNA) (Nh : SNH) (Nq : SNQ) (Nj : SNJ) (M0 : SMT) (M1 : SMT), va_D A (((o, .inl (cO, 1, .inr (.inl f))) :: o_cw ad ca rt Sj T0 T1 Rd Pg Pt Mk Lk Ck Jd Ld Pr) ++ m_cw ad2 ca2 ky ty rt2 Ni Np No Nx Nf Na Nh Nq Nj M0 M1)) (hi1 : vp_in (i + (1:Int32)) L) (hi2 : vp_in (i + (2:Int32)) L) (hi3 : vp_in (i + (3:Int32)) L) (hi4 : vp_in (i + (4:Int32)) L) (hi5 : vp_in (i + (5:Int32)) L) (hcs : cells + 1 ≤ room_1.cells) (hss : slots + 6 ≤ room_1.slots) (n2 : Nat) (Sj : SSJ) (T0 : STx) (T1 : STx) (Rd : SRd) (Pg : SPg) (Pt : SPt) (Mk : SMk) (Lk : SLk) (Ck : SCk) (Jd : SJd) (Ld : SLd) (Pr : SPr) (rt : Nat) (rt2 : Nat) (Ni : SNI) (Np : SNP) (No : SNO) (Nx : SNX) (Nf : SNF) (Na : SNA) (Nh : SNH) (Nq : SNQ) (Nj : SNJ) (M0 : SMT) (M1 : SMT) (f : Nat → Int64) (Rd' : SRd) (v : Int32) (v2 : Int32) (Ni' : SNI) (h : m_SJ_feed (xs (i + (1:Int32)).toNatClampNeg) (xs (i + (2:Int32)).toNatClampNeg) (xs (i + (3:Int32)).toNatClampNeg) (xs (i + (4:Int32)).toNatClampNeg) (xs (i + (5:Int32)).toNatClampNeg) Rd = some (0, v, Rd')) (h2 : m_MM_feed n2 (xs (i + (1:Int32)).toNatClampNeg) (xs (i + (2:Int32)).toNatClampNeg) (xs (i + (3:Int32)).toNatClampNeg) (xs (i + (4:Int32)).toNatClampNeg) (xs (i + (5:Int32)).toNatClampNeg) Ni = some (v2, Ni')) (hP1 : va_P D1 o_cls ((o, .inl (cO, 1, .inr (.inl f))) :: o_cw ad ca rt Sj T0 T1 Rd Pg Pt Mk Lk Ck Jd Ld Pr) H) (hP2 : va_P D2 m_cls (m_cw ad2 ca2 ky ty rt2 Ni Np No Nx Nf Na Nh Nq Nj M0 M1) H) (hS : va_S A s.heap H locs) (hl : lv_has ls 7 [(0, .ref b), (1, .ref (ad 0)), (2, .ref (ad2 0)), (3, .ref o), (4, .int i)]) (kk : ∀ (H : Heap) (locs : List Loc) (ls : Array Slot), va_P D1 o_cls ((o, .inl (cO, 1, .inr (.inl (vp_updL f 0 v.toInt64)))) :: o_cw ad ca rt Sj T0 T1 Rd' Pg Pt Mk Lk Ck Jd Ld Pr) H → va_P D2 m_cls (m_cw ad2 ca2 ky ty rt2 Ni' Np No Nx Nf Na Nh Nq Nj M0 M1) H → va_S A s.heap H locs → lv_has ls 7 [(0, .ref b), (1, .ref (ad 0)), (2, .ref (ad2 0)), (3, .ref o), (4, .int i)] → W p l e room_1 s m args below meth c H locs (cells + 1) (slots + 6) Q (F0 m 574 ls [])) : W p l e room_1 s m args below meth c H locs cells slots Q (F0 m 104 ls []) := by
  have C0 := C1
  obtain ⟨hx, hb, -, -, -, hown, hts, hK1, -, -⟩ := C0
  refine lv_aload_n hx hb d_LW_law_104 rfl (lv_at hl 1 rfl) ?_
  refine lv_aload_n hx hb d_LW_law_105 rfl (lv_at hl 0 rfl) ?_
  refine lv_iload hx hb d_LW_law_106 (lv_at hl 4 rfl) ?_
  refine lv_iconst (v := (1:Int32)) hx hb d_LW_law_108 (by decide) ?_
  refine lv_iadd hx hb d_LW_law_109 ?_
  refine va_sld hx hb hX hbl hbA hS hi1 d_LW_law_110 ?_
  refine lv_aload_n hx hb d_LW_law_111 rfl (lv_at hl 0 rfl) ?_
  refine lv_iload hx hb d_LW_law_112 (lv_at hl 4 rfl) ?_
  refine lv_iconst (v := (2:Int32)) hx hb d_LW_law_114 (by decide) ?_
  refine lv_iadd hx hb d_LW_law_115 ?_
  refine va_sld hx hb hX hbl hbA hS hi2 d_LW_law_116 ?_
  refine lv_aload_n hx hb d_LW_law_117 rfl (lv_at hl 0 rfl) ?_
  refine lv_iload hx hb d_LW_law_118 (lv_at hl 4 rfl) ?_
  refine lv_iconst (v := (3:Int32)) hx hb d_LW_law_120 (by decide) ?_
  refine lv_iadd hx hb d_LW_law_121 ?_
  refine va_sld hx hb hX hbl hbA hS hi3 d_LW_law_122 ?_
  refine lv_aload_n hx hb d_LW_law_123 rfl (lv_at hl 0 rfl) ?_
  refine lv_iload hx hb d_LW_law_124 (lv_at hl 4 rfl) ?_
  refine lv_iconst (v := (4:Int32)) hx hb d_LW_law_126 (by decide) ?_
  refine lv_iadd hx hb d_LW_law_127 ?_
  refine va_sld hx hb hX hbl hbA hS hi4 d_LW_law_128 ?_
  refine lv_aload_n hx hb d_LW_law_129 rfl (lv_at hl 0 rfl) ?_
  refine lv_iload hx hb d_LW_law_130 (lv_at hl 4 rfl) ?_
  refine lv_iconst (v := (5:Int32)) hx hb d_LW_law_132 (by decide) ?_
  refine lv_iadd hx hb d_LW_law_133 ?_
  refine va_sld hx hb hX hbl hbA hS hi5 d_LW_law_134 ?_
  refine lv_aload_n hx hb d_LW_law_135 rfl (lv_at hl 3 rfl) ?_
  refine o_SW (rest := []) (st1 := [.int (0:Int32)]) (As := [.ref (ad 0), .int (xs (i + (1:Int32)).toNatClampNeg), .int (xs (i + (2:Int32)).toNatClampNeg), .int (xs (i + (3:Int32)).toNatClampNeg), .int (xs (i + (4:Int32)).toNatClampNeg), .int (xs (i + (5:Int32)).toNatClampNeg), .ref o]) hE.1 C1 (lh_feed_0 hE hT l hfl (xs (i + (1:Int32)).toNatClampNeg) (xs (i + (2:Int32)).toNatClampNeg) (xs (i + (3:Int32)).toNatClampNeg) (xs (i + (4:Int32)).toNatClampNeg) (xs (i + (5:Int32)).toNatClampNeg) Sj T0 T1 Rd Pg Pt Mk Lk Ck Jd Ld Pr Rd' rt v f h) hK1 hP1 (o_Dl (hDD f rt Sj T0 T1 Rd Pg Pt Mk Lk Ck Jd Ld Pr rt2 Ni Np No Nx Nf Na Nh Nq Nj M0 M1)) hS hl.1 k_2_160 k_2_161 k_1_0 kw_LW_feed hs_LW_feed rfl rfl ⟨(Nat.le_of_ble_eq_true rfl), (Nat.le_of_ble_eq_true rfl)⟩ rfl (Nat.le_of_ble_eq_true rfl) ⟨hcs, hss⟩ rfl d_LW_law_136 (fun H1 locs1 hQ1 hk hS1 => ?_)
  have hP2 := o_keep2 (hDD f rt Sj T0 T1 Rd Pg Pt Mk Lk Ck Jd Ld Pr rt2 Ni Np No Nx Nf Na Nh Nq Nj M0 M1) hP2 hk
  have hP1 := hQ1
  have hS := hS1
  refine lv_istore (lv' := [(5, .int (0:Int32)), (0, .ref b), (1, .ref (ad 0)), (2, .ref (ad2 0)), (3, .ref o), (4, .int i)]) hx hb d_LW_law_139 hl (by decide) rfl (fun ls hl => ?_)
  refine lv_aload_n hx hb d_LW_law_141 rfl (lv_at hl 3 rfl) ?_
  refine lv_aload_n hx hb d_LW_law_142 rfl (lv_at hl 1 rfl) ?_
  refine lv_iload hx hb d_LW_law_143 (lv_at hl 5 rfl) ?_
  refine lv_iconst (v := (1:Int32)) hx hb d_LW_law_145 (by decide) ?_
  refine lv_iadd hx hb d_LW_law_146 ?_
  refine va_sld hx hb hX hbl hbA hS hi1 d_LW_law_147 ?_
  refine lv_aload_n hx hb d_LW_law_148 rfl (lv_at hl 1 rfl) ?_
  refine lv_iload hx hb d_LW_law_149 (lv_at hl 5 rfl) ?_
  refine lv_iconst (v := (2:Int32)) hx hb d_LW_law_151 (by decide) ?_
  refine lv_iadd hx hb d_LW_law_152 ?_
  refine va_sld hx hb hX hbl hbA hS hi2 d_LW_law_153 ?_
  refine lv_aload_n hx hb d_LW_law_154 rfl (lv_at hl 1 rfl) ?_
  refine lv_iload hx hb d_LW_law_155 (lv_at hl 5 rfl) ?_
  refine lv_iconst (v := (3:Int32)) hx hb d_LW_law_157 (by decide) ?_
  refine lv_iadd hx hb d_LW_law_158 ?_
  refine va_sld hx hb hX hbl hbA hS hi3 d_LW_law_159 ?_
  refine lv_aload_n hx hb d_LW_law_160 rfl (lv_at hl 1 rfl) ?_
  refine lv_iload hx hb d_LW_law_161 (lv_at hl 5 rfl) ?_
  refine lv_iconst (v := (4:Int32)) hx hb d_LW_law_163 (by decide) ?_
  refine lv_iadd hx hb d_LW_law_164 ?_
  refine va_sld hx hb hX hbl hbA hS hi4 d_LW_law_165 ?_
  refine lv_aload_n hx hb d_LW_law_166 rfl (lv_at hl 1 rfl) ?_
  refine lv_iload hx hb d_LW_law_167 (lv_at hl 5 rfl) ?_
  refine lv_iconst (v := (5:Int32)) hx hb d_LW_law_169 (by decide) ?_
  refine lv_iadd hx hb d_LW_law_170 ?_
  refine va_sld hx hb hX hbl hbA hS hi5 d_LW_law_171 ?_
  refine o_VF (rest := []) (st1 := [.int v2]) (As := [.int (xs (i + (1:Int32)).toNatClampNeg), .int (xs (i + (2:Int32)).toNatClampNeg), .int (xs (i + (3:Int32)).toNatClampNeg), .int (xs (i + (4:Int32)).toNatClampNeg), .int (xs (i + (5:Int32)).toNatClampNeg)]) (w1 := (m_cw ad2 ca2 ky ty rt2 Ni' Np No Nx Nf Na Nh Nq Nj M0 M1)) hE.1 C2 (e_MM_feed hE hKy l n2 (xs (i + (1:Int32)).toNatClampNeg) (xs (i + (2:Int32)).toNatClampNeg) (xs (i + (3:Int32)).toNatClampNeg) (xs (i + (4:Int32)).toNatClampNeg) (xs (i + (5:Int32)).toNatClampNeg) Ni Np No Nx Nf Na Nh Nq Nj M0 M1 rt2 h2) hP2 (o_Dr (hDD (vp_updL f 0 v.toInt64) rt Sj T0 T1 Rd' Pg Pt Mk Lk Ck Jd Ld Pr rt2 Ni Np No Nx Nf Na Nh Nq Nj M0 M1)) hS hl.1 rfl mw_0 k_8_172 k_8_173 k_8_174 k_1_12 k_8_175 hv_MM_feed rfl rfl ⟨(Nat.le_of_ble_eq_true rfl), (Nat.le_of_ble_eq_true rfl)⟩ rfl (Nat.le_of_ble_eq_true rfl) ⟨by omega, by omega⟩ rfl d_LW_law_172 (fun H1 locs1 hQ2 hk hS1 => ?_)
  have hP1 := o_keep1 (hDD (vp_updL f 0 v.toInt64) rt Sj T0 T1 Rd' Pg Pt Mk Lk Ck Jd Ld Pr rt2 Ni Np No Nx Nf Na Nh Nq Nj M0 M1) hP1 hk
  have hP2 := hQ2
  have hS := hS1
  refine lv_istore (lv' := [(6, .int v2), (5, .int (0:Int32)), (0, .ref b), (1, .ref (ad 0)), (2, .ref (ad2 0)), (3, .ref o), (4, .int i)]) hx hb d_LW_law_175 hl (by decide) rfl (fun ls hl => ?_)
  refine lv_goto (tgt := 574) hx hb d_LW_law_177 (by decide) ?_
  exact kk _ _ _ hP1 hP2 hS (lv_sub hl [2, 3, 4, 5, 6] rfl)
set_option maxHeartbeats 4000000 in
set_option maxRecDepth 100000 in
theorem la_feed_1 {E : (Nat → Prop) → State → Heap → Prop} {p : Program} {l : Launch} {e : Env} {s : State} {m : MethodId} {args : Array Value} {below : List Frame} {meth : Method} {c : Code} {D1 D2 : va_G} {ad ad2 kd sd vd xd : Nat → Nat} {ca ca2 : Nat → ClassId} {ky ty : Nat → Option Nat} {cO : ClassId} {o b L : Nat} {xs : Nat → Int32} {A : Nat → Prop} {Q : State → Prop} {H : Heap} {locs : List Loc} {cells slots : Nat} {ls : Array Slot} {i : Int32} (hE : o_EK E kd sd vd xd) (hKy : m_KY ky ty sd) (hT : o_ET E) (hfl : l.flags = pinnedFlags ++ [noTraceFlag]) (C1 : o_Cx E p s m args meth c D1 o_cls ((cO, .long) :: o_tys ca) "SchemaJudgeLaw" code (some .boolean) 7 (.tt) A) (C1a : o_Cx E p s m args meth c D1 o_cls (o_tys ca) "SchemaJudgeLaw" code (some .boolean) 7 (.tt) A) (C2 : o_Cx E p s m args meth c D2 m_cls (m_tys ca2) "SchemaJudgeLaw" code (some .boolean) 7 (.tt) A) (hX : va_X b L xs s s.heap) (hbl : b < s.heap.size) (hbA : ¬ A b) (hDD : ∀ (f : Nat → Int64) (rt : Nat) (Sj : SSJ) (T0 : STx) (T1 : STx) (Rd : SRd) (Pg : SPg) (Pt : SPt) (Mk : SMk) (Lk : SLk) (Ck : SCk) (Jd : SJd) (Ld : SLd) (Pr : SPr) (rt2 : Nat) (Ni : SNI) (Np : SNP) (No : SNO) (Nx : SNX) (Nf : SNF) (Na : SNA) (Nh : SNH) (Nq : SNQ) (Nj : SNJ) (M0 : SMT) (M1 : SMT), va_D A (((o, .inl (cO, 1, .inr (.inl f))) :: o_cw ad ca rt Sj T0 T1 Rd Pg Pt Mk Lk Ck Jd Ld Pr) ++ m_cw ad2 ca2 ky ty rt2 Ni Np No Nx Nf Na Nh Nq Nj M0 M1)) (hi1 : vp_in (i + (1:Int32)) L) (hi2 : vp_in (i + (2:Int32)) L) (hi3 : vp_in (i + (3:Int32)) L) (hi4 : vp_in (i + (4:Int32)) L) (hi5 : vp_in (i + (5:Int32)) L) (hcs : cells + 1 ≤ room_1.cells) (hss : slots + 6 ≤ room_1.slots) (n2 : Nat) (Sj : SSJ) (T0 : STx) (T1 : STx) (Rd : SRd) (Pg : SPg) (Pt : SPt) (Mk : SMk) (Lk : SLk) (Ck : SCk) (Jd : SJd) (Ld : SLd) (Pr : SPr) (rt : Nat) (rt2 : Nat) (Ni : SNI) (Np : SNP) (No : SNO) (Nx : SNX) (Nf : SNF) (Na : SNA) (Nh : SNH) (Nq : SNQ) (Nj : SNJ) (M0 : SMT) (M1 : SMT) (f : Nat → Int64) (Rd' : SRd) (v : Int32) (v2 : Int32) (Ni' : SNI) (h : m_SJ_feed (xs (i + (1:Int32)).toNatClampNeg) (xs (i + (2:Int32)).toNatClampNeg) (xs (i + (3:Int32)).toNatClampNeg) (xs (i + (4:Int32)).toNatClampNeg) (xs (i + (5:Int32)).toNatClampNeg) Rd = some (1, v, Rd')) (h2 : m_MM_feed n2 (xs (i + (1:Int32)).toNatClampNeg) (xs (i + (2:Int32)).toNatClampNeg) (xs (i + (3:Int32)).toNatClampNeg) (xs (i + (4:Int32)).toNatClampNeg) (xs (i + (5:Int32)).toNatClampNeg) Ni = some (v2, Ni')) (hP1 : va_P D1 o_cls ((o, .inl (cO, 1, .inr (.inl f))) :: o_cw ad ca rt Sj T0 T1 Rd Pg Pt Mk Lk Ck Jd Ld Pr) H) (hP2 : va_P D2 m_cls (m_cw ad2 ca2 ky ty rt2 Ni Np No Nx Nf Na Nh Nq Nj M0 M1) H) (hS : va_S A s.heap H locs) (hl : lv_has ls 7 [(0, .ref b), (1, .ref (ad 0)), (2, .ref (ad2 0)), (3, .ref o), (4, .int i)]) (kk : ∀ (H : Heap) (locs : List Loc) (ls : Array Slot), va_P D1 o_cls ((o, .inl (cO, 1, .inr (.inl f))) :: o_cw ad ca rt Sj T0 T1 Rd' Pg Pt Mk Lk Ck Jd Ld Pr) H → va_P D2 m_cls (m_cw ad2 ca2 ky ty rt2 Ni' Np No Nx Nf Na Nh Nq Nj M0 M1) H → va_S A s.heap H locs → lv_has ls 7 [(0, .ref b), (1, .ref (ad 0)), (2, .ref (ad2 0)), (3, .ref o), (4, .int i)] → W p l e room_1 s m args below meth c H locs (cells + 1) (slots + 6) Q (F0 m 574 ls [])) : W p l e room_1 s m args below meth c H locs cells slots Q (F0 m 104 ls []) := by
  have C0 := C1
  obtain ⟨hx, hb, -, -, -, hown, hts, hK1, -, -⟩ := C0
  refine lv_aload_n hx hb d_LW_law_104 rfl (lv_at hl 1 rfl) ?_
  refine lv_aload_n hx hb d_LW_law_105 rfl (lv_at hl 0 rfl) ?_
  refine lv_iload hx hb d_LW_law_106 (lv_at hl 4 rfl) ?_
  refine lv_iconst (v := (1:Int32)) hx hb d_LW_law_108 (by decide) ?_
  refine lv_iadd hx hb d_LW_law_109 ?_
  refine va_sld hx hb hX hbl hbA hS hi1 d_LW_law_110 ?_
  refine lv_aload_n hx hb d_LW_law_111 rfl (lv_at hl 0 rfl) ?_
  refine lv_iload hx hb d_LW_law_112 (lv_at hl 4 rfl) ?_
  refine lv_iconst (v := (2:Int32)) hx hb d_LW_law_114 (by decide) ?_
  refine lv_iadd hx hb d_LW_law_115 ?_
  refine va_sld hx hb hX hbl hbA hS hi2 d_LW_law_116 ?_
  refine lv_aload_n hx hb d_LW_law_117 rfl (lv_at hl 0 rfl) ?_
  refine lv_iload hx hb d_LW_law_118 (lv_at hl 4 rfl) ?_
  refine lv_iconst (v := (3:Int32)) hx hb d_LW_law_120 (by decide) ?_
  refine lv_iadd hx hb d_LW_law_121 ?_
  refine va_sld hx hb hX hbl hbA hS hi3 d_LW_law_122 ?_
  refine lv_aload_n hx hb d_LW_law_123 rfl (lv_at hl 0 rfl) ?_
  refine lv_iload hx hb d_LW_law_124 (lv_at hl 4 rfl) ?_
  refine lv_iconst (v := (4:Int32)) hx hb d_LW_law_126 (by decide) ?_
  refine lv_iadd hx hb d_LW_law_127 ?_
  refine va_sld hx hb hX hbl hbA hS hi4 d_LW_law_128 ?_
  refine lv_aload_n hx hb d_LW_law_129 rfl (lv_at hl 0 rfl) ?_
  refine lv_iload hx hb d_LW_law_130 (lv_at hl 4 rfl) ?_
  refine lv_iconst (v := (5:Int32)) hx hb d_LW_law_132 (by decide) ?_
  refine lv_iadd hx hb d_LW_law_133 ?_
  refine va_sld hx hb hX hbl hbA hS hi5 d_LW_law_134 ?_
  refine lv_aload_n hx hb d_LW_law_135 rfl (lv_at hl 3 rfl) ?_
  refine o_SW (rest := []) (st1 := [.int (1:Int32)]) (As := [.ref (ad 0), .int (xs (i + (1:Int32)).toNatClampNeg), .int (xs (i + (2:Int32)).toNatClampNeg), .int (xs (i + (3:Int32)).toNatClampNeg), .int (xs (i + (4:Int32)).toNatClampNeg), .int (xs (i + (5:Int32)).toNatClampNeg), .ref o]) hE.1 C1 (lh_feed_1 hE hT l hfl (xs (i + (1:Int32)).toNatClampNeg) (xs (i + (2:Int32)).toNatClampNeg) (xs (i + (3:Int32)).toNatClampNeg) (xs (i + (4:Int32)).toNatClampNeg) (xs (i + (5:Int32)).toNatClampNeg) Sj T0 T1 Rd Pg Pt Mk Lk Ck Jd Ld Pr Rd' rt v f h) hK1 hP1 (o_Dl (hDD f rt Sj T0 T1 Rd Pg Pt Mk Lk Ck Jd Ld Pr rt2 Ni Np No Nx Nf Na Nh Nq Nj M0 M1)) hS hl.1 k_2_160 k_2_161 k_1_0 kw_LW_feed hs_LW_feed rfl rfl ⟨(Nat.le_of_ble_eq_true rfl), (Nat.le_of_ble_eq_true rfl)⟩ rfl (Nat.le_of_ble_eq_true rfl) ⟨hcs, hss⟩ rfl d_LW_law_136 (fun H1 locs1 hQ1 hk hS1 => ?_)
  have hP2 := o_keep2 (hDD f rt Sj T0 T1 Rd Pg Pt Mk Lk Ck Jd Ld Pr rt2 Ni Np No Nx Nf Na Nh Nq Nj M0 M1) hP2 hk
  have hP1 := hQ1
  have hS := hS1
  refine lv_istore (lv' := [(5, .int (1:Int32)), (0, .ref b), (1, .ref (ad 0)), (2, .ref (ad2 0)), (3, .ref o), (4, .int i)]) hx hb d_LW_law_139 hl (by decide) rfl (fun ls hl => ?_)
  refine lv_aload_n hx hb d_LW_law_141 rfl (lv_at hl 3 rfl) ?_
  refine lv_aload_n hx hb d_LW_law_142 rfl (lv_at hl 1 rfl) ?_
  refine lv_iload hx hb d_LW_law_143 (lv_at hl 5 rfl) ?_
  refine lv_iconst (v := (1:Int32)) hx hb d_LW_law_145 (by decide) ?_
  refine lv_iadd hx hb d_LW_law_146 ?_
  refine va_sld hx hb hX hbl hbA hS hi1 d_LW_law_147 ?_
  refine lv_aload_n hx hb d_LW_law_148 rfl (lv_at hl 1 rfl) ?_
  refine lv_iload hx hb d_LW_law_149 (lv_at hl 5 rfl) ?_
  refine lv_iconst (v := (2:Int32)) hx hb d_LW_law_151 (by decide) ?_
  refine lv_iadd hx hb d_LW_law_152 ?_
  refine va_sld hx hb hX hbl hbA hS hi2 d_LW_law_153 ?_
  refine lv_aload_n hx hb d_LW_law_154 rfl (lv_at hl 1 rfl) ?_
  refine lv_iload hx hb d_LW_law_155 (lv_at hl 5 rfl) ?_
  refine lv_iconst (v := (3:Int32)) hx hb d_LW_law_157 (by decide) ?_
  refine lv_iadd hx hb d_LW_law_158 ?_
  refine va_sld hx hb hX hbl hbA hS hi3 d_LW_law_159 ?_
  refine lv_aload_n hx hb d_LW_law_160 rfl (lv_at hl 1 rfl) ?_
  refine lv_iload hx hb d_LW_law_161 (lv_at hl 5 rfl) ?_
  refine lv_iconst (v := (4:Int32)) hx hb d_LW_law_163 (by decide) ?_
  refine lv_iadd hx hb d_LW_law_164 ?_
  refine va_sld hx hb hX hbl hbA hS hi4 d_LW_law_165 ?_
  refine lv_aload_n hx hb d_LW_law_166 rfl (lv_at hl 1 rfl) ?_
  refine lv_iload hx hb d_LW_law_167 (lv_at hl 5 rfl) ?_
  refine lv_iconst (v := (5:Int32)) hx hb d_LW_law_169 (by decide) ?_
  refine lv_iadd hx hb d_LW_law_170 ?_
  refine va_sld hx hb hX hbl hbA hS hi5 d_LW_law_171 ?_
  refine o_VF (rest := []) (st1 := [.int v2]) (As := [.int (xs (i + (1:Int32)).toNatClampNeg), .int (xs (i + (2:Int32)).toNatClampNeg), .int (xs (i + (3:Int32)).toNatClampNeg), .int (xs (i + (4:Int32)).toNatClampNeg), .int (xs (i + (5:Int32)).toNatClampNeg)]) (w1 := (m_cw ad2 ca2 ky ty rt2 Ni' Np No Nx Nf Na Nh Nq Nj M0 M1)) hE.1 C2 (e_MM_feed hE hKy l n2 (xs (i + (1:Int32)).toNatClampNeg) (xs (i + (2:Int32)).toNatClampNeg) (xs (i + (3:Int32)).toNatClampNeg) (xs (i + (4:Int32)).toNatClampNeg) (xs (i + (5:Int32)).toNatClampNeg) Ni Np No Nx Nf Na Nh Nq Nj M0 M1 rt2 h2) hP2 (o_Dr (hDD f rt Sj T0 T1 Rd' Pg Pt Mk Lk Ck Jd Ld Pr rt2 Ni Np No Nx Nf Na Nh Nq Nj M0 M1)) hS hl.1 rfl mw_0 k_8_172 k_8_173 k_8_174 k_1_12 k_8_175 hv_MM_feed rfl rfl ⟨(Nat.le_of_ble_eq_true rfl), (Nat.le_of_ble_eq_true rfl)⟩ rfl (Nat.le_of_ble_eq_true rfl) ⟨by omega, by omega⟩ rfl d_LW_law_172 (fun H1 locs1 hQ2 hk hS1 => ?_)
  have hP1 := o_keep1 (hDD f rt Sj T0 T1 Rd' Pg Pt Mk Lk Ck Jd Ld Pr rt2 Ni Np No Nx Nf Na Nh Nq Nj M0 M1) hP1 hk
  have hP2 := hQ2
  have hS := hS1
  refine lv_istore (lv' := [(6, .int v2), (5, .int (1:Int32)), (0, .ref b), (1, .ref (ad 0)), (2, .ref (ad2 0)), (3, .ref o), (4, .int i)]) hx hb d_LW_law_175 hl (by decide) rfl (fun ls hl => ?_)
  refine lv_goto (tgt := 574) hx hb d_LW_law_177 (by decide) ?_
  exact kk _ _ _ hP1 hP2 hS (lv_sub hl [2, 3, 4, 5, 6] rfl)
set_option maxHeartbeats 4000000 in
set_option maxRecDepth 100000 in
theorem la_end_0_b0 {E : (Nat → Prop) → State → Heap → Prop} {p : Program} {l : Launch} {e : Env} {s : State} {m : MethodId} {args : Array Value} {below : List Frame} {meth : Method} {c : Code} {D1 D2 : va_G} {ad ad2 kd sd vd xd : Nat → Nat} {ca ca2 : Nat → ClassId} {ky ty : Nat → Option Nat} {cO : ClassId} {o b L : Nat} {xs : Nat → Int32} {A : Nat → Prop} {Q : State → Prop} {H : Heap} {locs : List Loc} {cells slots : Nat} {ls : Array Slot} {i : Int32} (hE : o_EK E kd sd vd xd) (hKy : m_KY ky ty sd) (hT : o_ET E) (hfl : l.flags = pinnedFlags ++ [noTraceFlag]) (C1 : o_Cx E p s m args meth c D1 o_cls ((cO, .long) :: o_tys ca) "SchemaJudgeLaw" code (some .boolean) 7 (.tt) A) (C1a : o_Cx E p s m args meth c D1 o_cls (o_tys ca) "SchemaJudgeLaw" code (some .boolean) 7 (.tt) A) (C2 : o_Cx E p s m args meth c D2 m_cls (m_tys ca2) "SchemaJudgeLaw" code (some .boolean) 7 (.tt) A) (hX : va_X b L xs s s.heap) (hbl : b < s.heap.size) (hbA : ¬ A b) (hDD : ∀ (f : Nat → Int64) (rt : Nat) (Sj : SSJ) (T0 : STx) (T1 : STx) (Rd : SRd) (Pg : SPg) (Pt : SPt) (Mk : SMk) (Lk : SLk) (Ck : SCk) (Jd : SJd) (Ld : SLd) (Pr : SPr) (rt2 : Nat) (Ni : SNI) (Np : SNP) (No : SNO) (Nx : SNX) (Nf : SNF) (Na : SNA) (Nh : SNH) (Nq : SNQ) (Nj : SNJ) (M0 : SMT) (M1 : SMT), va_D A (((o, .inl (cO, 1, .inr (.inl f))) :: o_cw ad ca rt Sj T0 T1 Rd Pg Pt Mk Lk Ck Jd Ld Pr) ++ m_cw ad2 ca2 ky ty rt2 Ni Np No Nx Nf Na Nh Nq Nj M0 M1)) (hi1 : vp_in (i + (1:Int32)) L) (hi2 : vp_in (i + (2:Int32)) L) (hi3 : vp_in (i + (3:Int32)) L) (hi4 : vp_in (i + (4:Int32)) L) (hi5 : vp_in (i + (5:Int32)) L) (hcs : cells + 1 ≤ room_1.cells) (hss : slots + 6 ≤ room_1.slots) (n : Nat) (n2 : Nat) (Sj : SSJ) (T0 : STx) (T1 : STx) (Rd : SRd) (Pg : SPg) (Pt : SPt) (Mk : SMk) (Lk : SLk) (Ck : SCk) (Jd : SJd) (Ld : SLd) (Pr : SPr) (rt : Nat) (rt2 : Nat) (Ni : SNI) (Np : SNP) (No : SNO) (Nx : SNX) (Nf : SNF) (Na : SNA) (Nh : SNH) (Nq : SNQ) (Nj : SNJ) (M0 : SMT) (M1 : SMT) (f : Nat → Int64) (T0' : STx) (T1' : STx) (Rd' : SRd) (Ck' : SCk) (Sj' : SSJ) (rt' : Nat) (v : Int32) (v2 : Int32) (M0' : SMT) (M1' : SMT) (Ni' : SNI) (Nf' : SNF) (h : m_SJ_end n rt (0:Int32) (xs (i + (2:Int32)).toNatClampNeg) T0 T1 Rd Ck Sj = some (0, v, T0', T1', Rd', Ck', Sj', rt')) (hb0 : (xs (i + (1:Int32)).toNatClampNeg) = 0) (h2 : m_MM_end n2 (0:Int32) (xs (i + (2:Int32)).toNatClampNeg) M0 M1 Ni Nf = some (v2, M0', M1', Ni', Nf')) (hP1 : va_P D1 o_cls ((o, .inl (cO, 1, .inr (.inl f))) :: o_cw ad ca rt Sj T0 T1 Rd Pg Pt Mk Lk Ck Jd Ld Pr) H) (hP2 : va_P D2 m_cls (m_cw ad2 ca2 ky ty rt2 Ni Np No Nx Nf Na Nh Nq Nj M0 M1) H) (hS : va_S A s.heap H locs) (hl : lv_has ls 7 [(0, .ref b), (1, .ref (ad 0)), (2, .ref (ad2 0)), (3, .ref o), (4, .int i)]) (kk : ∀ (H : Heap) (locs : List Loc) (ls : Array Slot), va_P D1 o_cls ((o, .inl (cO, 1, .inr (.inl (vp_updL f 0 v.toInt64)))) :: o_cw ad ca rt' Sj' T0' T1' Rd' Pg Pt Mk Lk Ck' Jd Ld Pr) H → va_P D2 m_cls (m_cw ad2 ca2 ky ty rt2 Ni' Np No Nx Nf' Na Nh Nq Nj M0' M1') H → va_S A s.heap H locs → lv_has ls 7 [(0, .ref b), (1, .ref (ad 0)), (2, .ref (ad2 0)), (3, .ref o), (4, .int i)] → W p l e room_1 s m args below meth c H locs (cells + 1) (slots + 6) Q (F0 m 574 ls [])) : W p l e room_1 s m args below meth c H locs cells slots Q (F0 m 180 ls []) := by
  have C0 := C1
  obtain ⟨hx, hb, -, -, -, hown, hts, hK1, -, -⟩ := C0
  refine lv_aload_n hx hb d_LW_law_180 rfl (lv_at hl 1 rfl) ?_
  refine lv_aload_n hx hb d_LW_law_181 rfl (lv_at hl 0 rfl) ?_
  refine lv_iload hx hb d_LW_law_182 (lv_at hl 4 rfl) ?_
  refine lv_iconst (v := (1:Int32)) hx hb d_LW_law_184 (by decide) ?_
  refine lv_iadd hx hb d_LW_law_185 ?_
  refine va_sld hx hb hX hbl hbA hS hi1 d_LW_law_186 ?_
  refine lv_if_eq (tgt := 194) hx hb d_LW_law_187 (by decide) (fun _ => ?_) (fun z => absurd hb0 z)
  refine lv_iconst (v := (0:Int32)) hx hb d_LW_law_194 (by decide) ?_
  refine lv_aload_n hx hb d_LW_law_195 rfl (lv_at hl 0 rfl) ?_
  refine lv_iload hx hb d_LW_law_196 (lv_at hl 4 rfl) ?_
  refine lv_iconst (v := (2:Int32)) hx hb d_LW_law_198 (by decide) ?_
  refine lv_iadd hx hb d_LW_law_199 ?_
  refine va_sld hx hb hX hbl hbA hS hi2 d_LW_law_200 ?_
  refine lv_aload_n hx hb d_LW_law_201 rfl (lv_at hl 3 rfl) ?_
  refine o_SW (rest := []) (st1 := [.int (0:Int32)]) (As := [.ref (ad 0), .int (0:Int32), .int (xs (i + (2:Int32)).toNatClampNeg), .ref o]) hE.1 C1 (lh_end_0 hE hT l hfl n (0:Int32) (xs (i + (2:Int32)).toNatClampNeg) Sj T0 T1 Rd Pg Pt Mk Lk Ck Jd Ld Pr T0' T1' Rd' Ck' Sj' rt rt' v f h) hK1 hP1 (o_Dl (hDD f rt Sj T0 T1 Rd Pg Pt Mk Lk Ck Jd Ld Pr rt2 Ni Np No Nx Nf Na Nh Nq Nj M0 M1)) hS hl.1 k_3_9 k_3_10 k_1_0 kw_LW_end hs_LW_end rfl rfl ⟨(Nat.le_of_ble_eq_true rfl), (Nat.le_of_ble_eq_true rfl)⟩ rfl (Nat.le_of_ble_eq_true rfl) ⟨hcs, hss⟩ rfl d_LW_law_202 (fun H1 locs1 hQ1 hk hS1 => ?_)
  have hP2 := o_keep2 (hDD f rt Sj T0 T1 Rd Pg Pt Mk Lk Ck Jd Ld Pr rt2 Ni Np No Nx Nf Na Nh Nq Nj M0 M1) hP2 hk
  have hP1 := hQ1
  have hS := hS1
  refine lv_istore (lv' := [(5, .int (0:Int32)), (0, .ref b), (1, .ref (ad 0)), (2, .ref (ad2 0)), (3, .ref o), (4, .int i)]) hx hb d_LW_law_205 hl (by decide) rfl (fun ls hl => ?_)
  refine lv_aload_n hx hb d_LW_law_207 rfl (lv_at hl 3 rfl) ?_
  refine lv_aload_n hx hb d_LW_law_208 rfl (lv_at hl 1 rfl) ?_
  refine lv_iload hx hb d_LW_law_209 (lv_at hl 5 rfl) ?_
  refine lv_iconst (v := (1:Int32)) hx hb d_LW_law_211 (by decide) ?_
  refine lv_iadd hx hb d_LW_law_212 ?_
  refine va_sld hx hb hX hbl hbA hS hi1 d_LW_law_213 ?_
  refine lv_if_eq (tgt := 221) hx hb d_LW_law_214 (by decide) (fun _ => ?_) (fun z => absurd hb0 z)
  refine lv_iconst (v := (0:Int32)) hx hb d_LW_law_221 (by decide) ?_
  refine lv_aload_n hx hb d_LW_law_222 rfl (lv_at hl 1 rfl) ?_
  refine lv_iload hx hb d_LW_law_223 (lv_at hl 5 rfl) ?_
  refine lv_iconst (v := (2:Int32)) hx hb d_LW_law_225 (by decide) ?_
  refine lv_iadd hx hb d_LW_law_226 ?_
  refine va_sld hx hb hX hbl hbA hS hi2 d_LW_law_227 ?_
  refine o_VF (rest := []) (st1 := [.int v2]) (As := [.int (0:Int32), .int (xs (i + (2:Int32)).toNatClampNeg)]) (w1 := (m_cw ad2 ca2 ky ty rt2 Ni' Np No Nx Nf' Na Nh Nq Nj M0' M1')) hE.1 C2 (e_MM_end hE hKy l n2 (0:Int32) (xs (i + (2:Int32)).toNatClampNeg) M0 M1 Ni Nf Np No Nx Na Nh Nq Nj rt2 h2) hP2 (o_Dr (hDD (vp_updL f 0 v.toInt64) rt' Sj' T0' T1' Rd' Pg Pt Mk Lk Ck' Jd Ld Pr rt2 Ni Np No Nx Nf Na Nh Nq Nj M0 M1)) hS hl.1 rfl mw_0 k_8_180 k_8_181 k_8_182 k_1_12 k_8_183 hv_MM_end rfl rfl ⟨(Nat.le_of_ble_eq_true rfl), (Nat.le_of_ble_eq_true rfl)⟩ rfl (Nat.le_of_ble_eq_true rfl) ⟨by omega, by omega⟩ rfl d_LW_law_228 (fun H1 locs1 hQ2 hk hS1 => ?_)
  have hP1 := o_keep1 (hDD (vp_updL f 0 v.toInt64) rt' Sj' T0' T1' Rd' Pg Pt Mk Lk Ck' Jd Ld Pr rt2 Ni Np No Nx Nf Na Nh Nq Nj M0 M1) hP1 hk
  have hP2 := hQ2
  have hS := hS1
  refine lv_istore (lv' := [(6, .int v2), (5, .int (0:Int32)), (0, .ref b), (1, .ref (ad 0)), (2, .ref (ad2 0)), (3, .ref o), (4, .int i)]) hx hb d_LW_law_231 hl (by decide) rfl (fun ls hl => ?_)
  refine lv_goto (tgt := 574) hx hb d_LW_law_233 (by decide) ?_
  exact kk _ _ _ hP1 hP2 hS (lv_sub hl [2, 3, 4, 5, 6] rfl)
set_option maxHeartbeats 4000000 in
set_option maxRecDepth 100000 in
theorem la_end_0_b1 {E : (Nat → Prop) → State → Heap → Prop} {p : Program} {l : Launch} {e : Env} {s : State} {m : MethodId} {args : Array Value} {below : List Frame} {meth : Method} {c : Code} {D1 D2 : va_G} {ad ad2 kd sd vd xd : Nat → Nat} {ca ca2 : Nat → ClassId} {ky ty : Nat → Option Nat} {cO : ClassId} {o b L : Nat} {xs : Nat → Int32} {A : Nat → Prop} {Q : State → Prop} {H : Heap} {locs : List Loc} {cells slots : Nat} {ls : Array Slot} {i : Int32} (hE : o_EK E kd sd vd xd) (hKy : m_KY ky ty sd) (hT : o_ET E) (hfl : l.flags = pinnedFlags ++ [noTraceFlag]) (C1 : o_Cx E p s m args meth c D1 o_cls ((cO, .long) :: o_tys ca) "SchemaJudgeLaw" code (some .boolean) 7 (.tt) A) (C1a : o_Cx E p s m args meth c D1 o_cls (o_tys ca) "SchemaJudgeLaw" code (some .boolean) 7 (.tt) A) (C2 : o_Cx E p s m args meth c D2 m_cls (m_tys ca2) "SchemaJudgeLaw" code (some .boolean) 7 (.tt) A) (hX : va_X b L xs s s.heap) (hbl : b < s.heap.size) (hbA : ¬ A b) (hDD : ∀ (f : Nat → Int64) (rt : Nat) (Sj : SSJ) (T0 : STx) (T1 : STx) (Rd : SRd) (Pg : SPg) (Pt : SPt) (Mk : SMk) (Lk : SLk) (Ck : SCk) (Jd : SJd) (Ld : SLd) (Pr : SPr) (rt2 : Nat) (Ni : SNI) (Np : SNP) (No : SNO) (Nx : SNX) (Nf : SNF) (Na : SNA) (Nh : SNH) (Nq : SNQ) (Nj : SNJ) (M0 : SMT) (M1 : SMT), va_D A (((o, .inl (cO, 1, .inr (.inl f))) :: o_cw ad ca rt Sj T0 T1 Rd Pg Pt Mk Lk Ck Jd Ld Pr) ++ m_cw ad2 ca2 ky ty rt2 Ni Np No Nx Nf Na Nh Nq Nj M0 M1)) (hi1 : vp_in (i + (1:Int32)) L) (hi2 : vp_in (i + (2:Int32)) L) (hi3 : vp_in (i + (3:Int32)) L) (hi4 : vp_in (i + (4:Int32)) L) (hi5 : vp_in (i + (5:Int32)) L) (hcs : cells + 1 ≤ room_1.cells) (hss : slots + 6 ≤ room_1.slots) (n : Nat) (n2 : Nat) (Sj : SSJ) (T0 : STx) (T1 : STx) (Rd : SRd) (Pg : SPg) (Pt : SPt) (Mk : SMk) (Lk : SLk) (Ck : SCk) (Jd : SJd) (Ld : SLd) (Pr : SPr) (rt : Nat) (rt2 : Nat) (Ni : SNI) (Np : SNP) (No : SNO) (Nx : SNX) (Nf : SNF) (Na : SNA) (Nh : SNH) (Nq : SNQ) (Nj : SNJ) (M0 : SMT) (M1 : SMT) (f : Nat → Int64) (T0' : STx) (T1' : STx) (Rd' : SRd) (Ck' : SCk) (Sj' : SSJ) (rt' : Nat) (v : Int32) (v2 : Int32) (M0' : SMT) (M1' : SMT) (Ni' : SNI) (Nf' : SNF) (h : m_SJ_end n rt (1:Int32) (xs (i + (2:Int32)).toNatClampNeg) T0 T1 Rd Ck Sj = some (0, v, T0', T1', Rd', Ck', Sj', rt')) (hb0 : ¬ (xs (i + (1:Int32)).toNatClampNeg) = 0) (h2 : m_MM_end n2 (1:Int32) (xs (i + (2:Int32)).toNatClampNeg) M0 M1 Ni Nf = some (v2, M0', M1', Ni', Nf')) (hP1 : va_P D1 o_cls ((o, .inl (cO, 1, .inr (.inl f))) :: o_cw ad ca rt Sj T0 T1 Rd Pg Pt Mk Lk Ck Jd Ld Pr) H) (hP2 : va_P D2 m_cls (m_cw ad2 ca2 ky ty rt2 Ni Np No Nx Nf Na Nh Nq Nj M0 M1) H) (hS : va_S A s.heap H locs) (hl : lv_has ls 7 [(0, .ref b), (1, .ref (ad 0)), (2, .ref (ad2 0)), (3, .ref o), (4, .int i)]) (kk : ∀ (H : Heap) (locs : List Loc) (ls : Array Slot), va_P D1 o_cls ((o, .inl (cO, 1, .inr (.inl (vp_updL f 0 v.toInt64)))) :: o_cw ad ca rt' Sj' T0' T1' Rd' Pg Pt Mk Lk Ck' Jd Ld Pr) H → va_P D2 m_cls (m_cw ad2 ca2 ky ty rt2 Ni' Np No Nx Nf' Na Nh Nq Nj M0' M1') H → va_S A s.heap H locs → lv_has ls 7 [(0, .ref b), (1, .ref (ad 0)), (2, .ref (ad2 0)), (3, .ref o), (4, .int i)] → W p l e room_1 s m args below meth c H locs (cells + 1) (slots + 6) Q (F0 m 574 ls [])) : W p l e room_1 s m args below meth c H locs cells slots Q (F0 m 180 ls []) := by
  have C0 := C1
  obtain ⟨hx, hb, -, -, -, hown, hts, hK1, -, -⟩ := C0
  refine lv_aload_n hx hb d_LW_law_180 rfl (lv_at hl 1 rfl) ?_
  refine lv_aload_n hx hb d_LW_law_181 rfl (lv_at hl 0 rfl) ?_
  refine lv_iload hx hb d_LW_law_182 (lv_at hl 4 rfl) ?_
  refine lv_iconst (v := (1:Int32)) hx hb d_LW_law_184 (by decide) ?_
  refine lv_iadd hx hb d_LW_law_185 ?_
  refine va_sld hx hb hX hbl hbA hS hi1 d_LW_law_186 ?_
  refine lv_if_eq (tgt := 194) hx hb d_LW_law_187 (by decide) (fun z => absurd z hb0) (fun _ => ?_)
  refine lv_iconst (v := (1:Int32)) hx hb d_LW_law_190 (by decide) ?_
  refine lv_goto (tgt := 195) hx hb d_LW_law_191 (by decide) ?_
  refine lv_aload_n hx hb d_LW_law_195 rfl (lv_at hl 0 rfl) ?_
  refine lv_iload hx hb d_LW_law_196 (lv_at hl 4 rfl) ?_
  refine lv_iconst (v := (2:Int32)) hx hb d_LW_law_198 (by decide) ?_
  refine lv_iadd hx hb d_LW_law_199 ?_
  refine va_sld hx hb hX hbl hbA hS hi2 d_LW_law_200 ?_
  refine lv_aload_n hx hb d_LW_law_201 rfl (lv_at hl 3 rfl) ?_
  refine o_SW (rest := []) (st1 := [.int (0:Int32)]) (As := [.ref (ad 0), .int (1:Int32), .int (xs (i + (2:Int32)).toNatClampNeg), .ref o]) hE.1 C1 (lh_end_0 hE hT l hfl n (1:Int32) (xs (i + (2:Int32)).toNatClampNeg) Sj T0 T1 Rd Pg Pt Mk Lk Ck Jd Ld Pr T0' T1' Rd' Ck' Sj' rt rt' v f h) hK1 hP1 (o_Dl (hDD f rt Sj T0 T1 Rd Pg Pt Mk Lk Ck Jd Ld Pr rt2 Ni Np No Nx Nf Na Nh Nq Nj M0 M1)) hS hl.1 k_3_9 k_3_10 k_1_0 kw_LW_end hs_LW_end rfl rfl ⟨(Nat.le_of_ble_eq_true rfl), (Nat.le_of_ble_eq_true rfl)⟩ rfl (Nat.le_of_ble_eq_true rfl) ⟨hcs, hss⟩ rfl d_LW_law_202 (fun H1 locs1 hQ1 hk hS1 => ?_)
  have hP2 := o_keep2 (hDD f rt Sj T0 T1 Rd Pg Pt Mk Lk Ck Jd Ld Pr rt2 Ni Np No Nx Nf Na Nh Nq Nj M0 M1) hP2 hk
  have hP1 := hQ1
  have hS := hS1
  refine lv_istore (lv' := [(5, .int (0:Int32)), (0, .ref b), (1, .ref (ad 0)), (2, .ref (ad2 0)), (3, .ref o), (4, .int i)]) hx hb d_LW_law_205 hl (by decide) rfl (fun ls hl => ?_)
  refine lv_aload_n hx hb d_LW_law_207 rfl (lv_at hl 3 rfl) ?_
  refine lv_aload_n hx hb d_LW_law_208 rfl (lv_at hl 1 rfl) ?_
  refine lv_iload hx hb d_LW_law_209 (lv_at hl 5 rfl) ?_
  refine lv_iconst (v := (1:Int32)) hx hb d_LW_law_211 (by decide) ?_
  refine lv_iadd hx hb d_LW_law_212 ?_
  refine va_sld hx hb hX hbl hbA hS hi1 d_LW_law_213 ?_
  refine lv_if_eq (tgt := 221) hx hb d_LW_law_214 (by decide) (fun z => absurd z hb0) (fun _ => ?_)
  refine lv_iconst (v := (1:Int32)) hx hb d_LW_law_217 (by decide) ?_
  refine lv_goto (tgt := 222) hx hb d_LW_law_218 (by decide) ?_
  refine lv_aload_n hx hb d_LW_law_222 rfl (lv_at hl 1 rfl) ?_
  refine lv_iload hx hb d_LW_law_223 (lv_at hl 5 rfl) ?_
  refine lv_iconst (v := (2:Int32)) hx hb d_LW_law_225 (by decide) ?_
  refine lv_iadd hx hb d_LW_law_226 ?_
  refine va_sld hx hb hX hbl hbA hS hi2 d_LW_law_227 ?_
  refine o_VF (rest := []) (st1 := [.int v2]) (As := [.int (1:Int32), .int (xs (i + (2:Int32)).toNatClampNeg)]) (w1 := (m_cw ad2 ca2 ky ty rt2 Ni' Np No Nx Nf' Na Nh Nq Nj M0' M1')) hE.1 C2 (e_MM_end hE hKy l n2 (1:Int32) (xs (i + (2:Int32)).toNatClampNeg) M0 M1 Ni Nf Np No Nx Na Nh Nq Nj rt2 h2) hP2 (o_Dr (hDD (vp_updL f 0 v.toInt64) rt' Sj' T0' T1' Rd' Pg Pt Mk Lk Ck' Jd Ld Pr rt2 Ni Np No Nx Nf Na Nh Nq Nj M0 M1)) hS hl.1 rfl mw_0 k_8_180 k_8_181 k_8_182 k_1_12 k_8_183 hv_MM_end rfl rfl ⟨(Nat.le_of_ble_eq_true rfl), (Nat.le_of_ble_eq_true rfl)⟩ rfl (Nat.le_of_ble_eq_true rfl) ⟨by omega, by omega⟩ rfl d_LW_law_228 (fun H1 locs1 hQ2 hk hS1 => ?_)
  have hP1 := o_keep1 (hDD (vp_updL f 0 v.toInt64) rt' Sj' T0' T1' Rd' Pg Pt Mk Lk Ck' Jd Ld Pr rt2 Ni Np No Nx Nf Na Nh Nq Nj M0 M1) hP1 hk
  have hP2 := hQ2
  have hS := hS1
  refine lv_istore (lv' := [(6, .int v2), (5, .int (0:Int32)), (0, .ref b), (1, .ref (ad 0)), (2, .ref (ad2 0)), (3, .ref o), (4, .int i)]) hx hb d_LW_law_231 hl (by decide) rfl (fun ls hl => ?_)
  refine lv_goto (tgt := 574) hx hb d_LW_law_233 (by decide) ?_
  exact kk _ _ _ hP1 hP2 hS (lv_sub hl [2, 3, 4, 5, 6] rfl)
set_option maxHeartbeats 4000000 in
set_option maxRecDepth 100000 in
theorem la_end_1_b0 {E : (Nat → Prop) → State → Heap → Prop} {p : Program} {l : Launch} {e : Env} {s : State} {m : MethodId} {args : Array Value} {below : List Frame} {meth : Method} {c : Code} {D1 D2 : va_G} {ad ad2 kd sd vd xd : Nat → Nat} {ca ca2 : Nat → ClassId} {ky ty : Nat → Option Nat} {cO : ClassId} {o b L : Nat} {xs : Nat → Int32} {A : Nat → Prop} {Q : State → Prop} {H : Heap} {locs : List Loc} {cells slots : Nat} {ls : Array Slot} {i : Int32} (hE : o_EK E kd sd vd xd) (hKy : m_KY ky ty sd) (hT : o_ET E) (hfl : l.flags = pinnedFlags ++ [noTraceFlag]) (C1 : o_Cx E p s m args meth c D1 o_cls ((cO, .long) :: o_tys ca) "SchemaJudgeLaw" code (some .boolean) 7 (.tt) A) (C1a : o_Cx E p s m args meth c D1 o_cls (o_tys ca) "SchemaJudgeLaw" code (some .boolean) 7 (.tt) A) (C2 : o_Cx E p s m args meth c D2 m_cls (m_tys ca2) "SchemaJudgeLaw" code (some .boolean) 7 (.tt) A) (hX : va_X b L xs s s.heap) (hbl : b < s.heap.size) (hbA : ¬ A b) (hDD : ∀ (f : Nat → Int64) (rt : Nat) (Sj : SSJ) (T0 : STx) (T1 : STx) (Rd : SRd) (Pg : SPg) (Pt : SPt) (Mk : SMk) (Lk : SLk) (Ck : SCk) (Jd : SJd) (Ld : SLd) (Pr : SPr) (rt2 : Nat) (Ni : SNI) (Np : SNP) (No : SNO) (Nx : SNX) (Nf : SNF) (Na : SNA) (Nh : SNH) (Nq : SNQ) (Nj : SNJ) (M0 : SMT) (M1 : SMT), va_D A (((o, .inl (cO, 1, .inr (.inl f))) :: o_cw ad ca rt Sj T0 T1 Rd Pg Pt Mk Lk Ck Jd Ld Pr) ++ m_cw ad2 ca2 ky ty rt2 Ni Np No Nx Nf Na Nh Nq Nj M0 M1)) (hi1 : vp_in (i + (1:Int32)) L) (hi2 : vp_in (i + (2:Int32)) L) (hi3 : vp_in (i + (3:Int32)) L) (hi4 : vp_in (i + (4:Int32)) L) (hi5 : vp_in (i + (5:Int32)) L) (hcs : cells + 1 ≤ room_1.cells) (hss : slots + 6 ≤ room_1.slots) (n : Nat) (n2 : Nat) (Sj : SSJ) (T0 : STx) (T1 : STx) (Rd : SRd) (Pg : SPg) (Pt : SPt) (Mk : SMk) (Lk : SLk) (Ck : SCk) (Jd : SJd) (Ld : SLd) (Pr : SPr) (rt : Nat) (rt2 : Nat) (Ni : SNI) (Np : SNP) (No : SNO) (Nx : SNX) (Nf : SNF) (Na : SNA) (Nh : SNH) (Nq : SNQ) (Nj : SNJ) (M0 : SMT) (M1 : SMT) (f : Nat → Int64) (T0' : STx) (T1' : STx) (Rd' : SRd) (Ck' : SCk) (Sj' : SSJ) (rt' : Nat) (v : Int32) (v2 : Int32) (M0' : SMT) (M1' : SMT) (Ni' : SNI) (Nf' : SNF) (h : m_SJ_end n rt (0:Int32) (xs (i + (2:Int32)).toNatClampNeg) T0 T1 Rd Ck Sj = some (1, v, T0', T1', Rd', Ck', Sj', rt')) (hb0 : (xs (i + (1:Int32)).toNatClampNeg) = 0) (h2 : m_MM_end n2 (0:Int32) (xs (i + (2:Int32)).toNatClampNeg) M0 M1 Ni Nf = some (v2, M0', M1', Ni', Nf')) (hP1 : va_P D1 o_cls ((o, .inl (cO, 1, .inr (.inl f))) :: o_cw ad ca rt Sj T0 T1 Rd Pg Pt Mk Lk Ck Jd Ld Pr) H) (hP2 : va_P D2 m_cls (m_cw ad2 ca2 ky ty rt2 Ni Np No Nx Nf Na Nh Nq Nj M0 M1) H) (hS : va_S A s.heap H locs) (hl : lv_has ls 7 [(0, .ref b), (1, .ref (ad 0)), (2, .ref (ad2 0)), (3, .ref o), (4, .int i)]) (kk : ∀ (H : Heap) (locs : List Loc) (ls : Array Slot), va_P D1 o_cls ((o, .inl (cO, 1, .inr (.inl f))) :: o_cw ad ca rt' Sj' T0' T1' Rd' Pg Pt Mk Lk Ck' Jd Ld Pr) H → va_P D2 m_cls (m_cw ad2 ca2 ky ty rt2 Ni' Np No Nx Nf' Na Nh Nq Nj M0' M1') H → va_S A s.heap H locs → lv_has ls 7 [(0, .ref b), (1, .ref (ad 0)), (2, .ref (ad2 0)), (3, .ref o), (4, .int i)] → W p l e room_1 s m args below meth c H locs (cells + 1) (slots + 6) Q (F0 m 574 ls [])) : W p l e room_1 s m args below meth c H locs cells slots Q (F0 m 180 ls []) := by
  have C0 := C1
  obtain ⟨hx, hb, -, -, -, hown, hts, hK1, -, -⟩ := C0
  refine lv_aload_n hx hb d_LW_law_180 rfl (lv_at hl 1 rfl) ?_
  refine lv_aload_n hx hb d_LW_law_181 rfl (lv_at hl 0 rfl) ?_
  refine lv_iload hx hb d_LW_law_182 (lv_at hl 4 rfl) ?_
  refine lv_iconst (v := (1:Int32)) hx hb d_LW_law_184 (by decide) ?_
  refine lv_iadd hx hb d_LW_law_185 ?_
  refine va_sld hx hb hX hbl hbA hS hi1 d_LW_law_186 ?_
  refine lv_if_eq (tgt := 194) hx hb d_LW_law_187 (by decide) (fun _ => ?_) (fun z => absurd hb0 z)
  refine lv_iconst (v := (0:Int32)) hx hb d_LW_law_194 (by decide) ?_
  refine lv_aload_n hx hb d_LW_law_195 rfl (lv_at hl 0 rfl) ?_
  refine lv_iload hx hb d_LW_law_196 (lv_at hl 4 rfl) ?_
  refine lv_iconst (v := (2:Int32)) hx hb d_LW_law_198 (by decide) ?_
  refine lv_iadd hx hb d_LW_law_199 ?_
  refine va_sld hx hb hX hbl hbA hS hi2 d_LW_law_200 ?_
  refine lv_aload_n hx hb d_LW_law_201 rfl (lv_at hl 3 rfl) ?_
  refine o_SW (rest := []) (st1 := [.int (1:Int32)]) (As := [.ref (ad 0), .int (0:Int32), .int (xs (i + (2:Int32)).toNatClampNeg), .ref o]) hE.1 C1 (lh_end_1 hE hT l hfl n (0:Int32) (xs (i + (2:Int32)).toNatClampNeg) Sj T0 T1 Rd Pg Pt Mk Lk Ck Jd Ld Pr T0' T1' Rd' Ck' Sj' rt rt' v f h) hK1 hP1 (o_Dl (hDD f rt Sj T0 T1 Rd Pg Pt Mk Lk Ck Jd Ld Pr rt2 Ni Np No Nx Nf Na Nh Nq Nj M0 M1)) hS hl.1 k_3_9 k_3_10 k_1_0 kw_LW_end hs_LW_end rfl rfl ⟨(Nat.le_of_ble_eq_true rfl), (Nat.le_of_ble_eq_true rfl)⟩ rfl (Nat.le_of_ble_eq_true rfl) ⟨hcs, hss⟩ rfl d_LW_law_202 (fun H1 locs1 hQ1 hk hS1 => ?_)
  have hP2 := o_keep2 (hDD f rt Sj T0 T1 Rd Pg Pt Mk Lk Ck Jd Ld Pr rt2 Ni Np No Nx Nf Na Nh Nq Nj M0 M1) hP2 hk
  have hP1 := hQ1
  have hS := hS1
  refine lv_istore (lv' := [(5, .int (1:Int32)), (0, .ref b), (1, .ref (ad 0)), (2, .ref (ad2 0)), (3, .ref o), (4, .int i)]) hx hb d_LW_law_205 hl (by decide) rfl (fun ls hl => ?_)
  refine lv_aload_n hx hb d_LW_law_207 rfl (lv_at hl 3 rfl) ?_
  refine lv_aload_n hx hb d_LW_law_208 rfl (lv_at hl 1 rfl) ?_
  refine lv_iload hx hb d_LW_law_209 (lv_at hl 5 rfl) ?_
  refine lv_iconst (v := (1:Int32)) hx hb d_LW_law_211 (by decide) ?_
  refine lv_iadd hx hb d_LW_law_212 ?_
  refine va_sld hx hb hX hbl hbA hS hi1 d_LW_law_213 ?_
  refine lv_if_eq (tgt := 221) hx hb d_LW_law_214 (by decide) (fun _ => ?_) (fun z => absurd hb0 z)
  refine lv_iconst (v := (0:Int32)) hx hb d_LW_law_221 (by decide) ?_
  refine lv_aload_n hx hb d_LW_law_222 rfl (lv_at hl 1 rfl) ?_
  refine lv_iload hx hb d_LW_law_223 (lv_at hl 5 rfl) ?_
  refine lv_iconst (v := (2:Int32)) hx hb d_LW_law_225 (by decide) ?_
  refine lv_iadd hx hb d_LW_law_226 ?_
  refine va_sld hx hb hX hbl hbA hS hi2 d_LW_law_227 ?_
  refine o_VF (rest := []) (st1 := [.int v2]) (As := [.int (0:Int32), .int (xs (i + (2:Int32)).toNatClampNeg)]) (w1 := (m_cw ad2 ca2 ky ty rt2 Ni' Np No Nx Nf' Na Nh Nq Nj M0' M1')) hE.1 C2 (e_MM_end hE hKy l n2 (0:Int32) (xs (i + (2:Int32)).toNatClampNeg) M0 M1 Ni Nf Np No Nx Na Nh Nq Nj rt2 h2) hP2 (o_Dr (hDD f rt' Sj' T0' T1' Rd' Pg Pt Mk Lk Ck' Jd Ld Pr rt2 Ni Np No Nx Nf Na Nh Nq Nj M0 M1)) hS hl.1 rfl mw_0 k_8_180 k_8_181 k_8_182 k_1_12 k_8_183 hv_MM_end rfl rfl ⟨(Nat.le_of_ble_eq_true rfl), (Nat.le_of_ble_eq_true rfl)⟩ rfl (Nat.le_of_ble_eq_true rfl) ⟨by omega, by omega⟩ rfl d_LW_law_228 (fun H1 locs1 hQ2 hk hS1 => ?_)
  have hP1 := o_keep1 (hDD f rt' Sj' T0' T1' Rd' Pg Pt Mk Lk Ck' Jd Ld Pr rt2 Ni Np No Nx Nf Na Nh Nq Nj M0 M1) hP1 hk
  have hP2 := hQ2
  have hS := hS1
  refine lv_istore (lv' := [(6, .int v2), (5, .int (1:Int32)), (0, .ref b), (1, .ref (ad 0)), (2, .ref (ad2 0)), (3, .ref o), (4, .int i)]) hx hb d_LW_law_231 hl (by decide) rfl (fun ls hl => ?_)
  refine lv_goto (tgt := 574) hx hb d_LW_law_233 (by decide) ?_
  exact kk _ _ _ hP1 hP2 hS (lv_sub hl [2, 3, 4, 5, 6] rfl)
set_option maxHeartbeats 4000000 in
set_option maxRecDepth 100000 in
theorem la_end_1_b1 {E : (Nat → Prop) → State → Heap → Prop} {p : Program} {l : Launch} {e : Env} {s : State} {m : MethodId} {args : Array Value} {below : List Frame} {meth : Method} {c : Code} {D1 D2 : va_G} {ad ad2 kd sd vd xd : Nat → Nat} {ca ca2 : Nat → ClassId} {ky ty : Nat → Option Nat} {cO : ClassId} {o b L : Nat} {xs : Nat → Int32} {A : Nat → Prop} {Q : State → Prop} {H : Heap} {locs : List Loc} {cells slots : Nat} {ls : Array Slot} {i : Int32} (hE : o_EK E kd sd vd xd) (hKy : m_KY ky ty sd) (hT : o_ET E) (hfl : l.flags = pinnedFlags ++ [noTraceFlag]) (C1 : o_Cx E p s m args meth c D1 o_cls ((cO, .long) :: o_tys ca) "SchemaJudgeLaw" code (some .boolean) 7 (.tt) A) (C1a : o_Cx E p s m args meth c D1 o_cls (o_tys ca) "SchemaJudgeLaw" code (some .boolean) 7 (.tt) A) (C2 : o_Cx E p s m args meth c D2 m_cls (m_tys ca2) "SchemaJudgeLaw" code (some .boolean) 7 (.tt) A) (hX : va_X b L xs s s.heap) (hbl : b < s.heap.size) (hbA : ¬ A b) (hDD : ∀ (f : Nat → Int64) (rt : Nat) (Sj : SSJ) (T0 : STx) (T1 : STx) (Rd : SRd) (Pg : SPg) (Pt : SPt) (Mk : SMk) (Lk : SLk) (Ck : SCk) (Jd : SJd) (Ld : SLd) (Pr : SPr) (rt2 : Nat) (Ni : SNI) (Np : SNP) (No : SNO) (Nx : SNX) (Nf : SNF) (Na : SNA) (Nh : SNH) (Nq : SNQ) (Nj : SNJ) (M0 : SMT) (M1 : SMT), va_D A (((o, .inl (cO, 1, .inr (.inl f))) :: o_cw ad ca rt Sj T0 T1 Rd Pg Pt Mk Lk Ck Jd Ld Pr) ++ m_cw ad2 ca2 ky ty rt2 Ni Np No Nx Nf Na Nh Nq Nj M0 M1)) (hi1 : vp_in (i + (1:Int32)) L) (hi2 : vp_in (i + (2:Int32)) L) (hi3 : vp_in (i + (3:Int32)) L) (hi4 : vp_in (i + (4:Int32)) L) (hi5 : vp_in (i + (5:Int32)) L) (hcs : cells + 1 ≤ room_1.cells) (hss : slots + 6 ≤ room_1.slots) (n : Nat) (n2 : Nat) (Sj : SSJ) (T0 : STx) (T1 : STx) (Rd : SRd) (Pg : SPg) (Pt : SPt) (Mk : SMk) (Lk : SLk) (Ck : SCk) (Jd : SJd) (Ld : SLd) (Pr : SPr) (rt : Nat) (rt2 : Nat) (Ni : SNI) (Np : SNP) (No : SNO) (Nx : SNX) (Nf : SNF) (Na : SNA) (Nh : SNH) (Nq : SNQ) (Nj : SNJ) (M0 : SMT) (M1 : SMT) (f : Nat → Int64) (T0' : STx) (T1' : STx) (Rd' : SRd) (Ck' : SCk) (Sj' : SSJ) (rt' : Nat) (v : Int32) (v2 : Int32) (M0' : SMT) (M1' : SMT) (Ni' : SNI) (Nf' : SNF) (h : m_SJ_end n rt (1:Int32) (xs (i + (2:Int32)).toNatClampNeg) T0 T1 Rd Ck Sj = some (1, v, T0', T1', Rd', Ck', Sj', rt')) (hb0 : ¬ (xs (i + (1:Int32)).toNatClampNeg) = 0) (h2 : m_MM_end n2 (1:Int32) (xs (i + (2:Int32)).toNatClampNeg) M0 M1 Ni Nf = some (v2, M0', M1', Ni', Nf')) (hP1 : va_P D1 o_cls ((o, .inl (cO, 1, .inr (.inl f))) :: o_cw ad ca rt Sj T0 T1 Rd Pg Pt Mk Lk Ck Jd Ld Pr) H) (hP2 : va_P D2 m_cls (m_cw ad2 ca2 ky ty rt2 Ni Np No Nx Nf Na Nh Nq Nj M0 M1) H) (hS : va_S A s.heap H locs) (hl : lv_has ls 7 [(0, .ref b), (1, .ref (ad 0)), (2, .ref (ad2 0)), (3, .ref o), (4, .int i)]) (kk : ∀ (H : Heap) (locs : List Loc) (ls : Array Slot), va_P D1 o_cls ((o, .inl (cO, 1, .inr (.inl f))) :: o_cw ad ca rt' Sj' T0' T1' Rd' Pg Pt Mk Lk Ck' Jd Ld Pr) H → va_P D2 m_cls (m_cw ad2 ca2 ky ty rt2 Ni' Np No Nx Nf' Na Nh Nq Nj M0' M1') H → va_S A s.heap H locs → lv_has ls 7 [(0, .ref b), (1, .ref (ad 0)), (2, .ref (ad2 0)), (3, .ref o), (4, .int i)] → W p l e room_1 s m args below meth c H locs (cells + 1) (slots + 6) Q (F0 m 574 ls [])) : W p l e room_1 s m args below meth c H locs cells slots Q (F0 m 180 ls []) := by
  have C0 := C1
  obtain ⟨hx, hb, -, -, -, hown, hts, hK1, -, -⟩ := C0
  refine lv_aload_n hx hb d_LW_law_180 rfl (lv_at hl 1 rfl) ?_
  refine lv_aload_n hx hb d_LW_law_181 rfl (lv_at hl 0 rfl) ?_
  refine lv_iload hx hb d_LW_law_182 (lv_at hl 4 rfl) ?_
  refine lv_iconst (v := (1:Int32)) hx hb d_LW_law_184 (by decide) ?_
  refine lv_iadd hx hb d_LW_law_185 ?_
  refine va_sld hx hb hX hbl hbA hS hi1 d_LW_law_186 ?_
  refine lv_if_eq (tgt := 194) hx hb d_LW_law_187 (by decide) (fun z => absurd z hb0) (fun _ => ?_)
  refine lv_iconst (v := (1:Int32)) hx hb d_LW_law_190 (by decide) ?_
  refine lv_goto (tgt := 195) hx hb d_LW_law_191 (by decide) ?_
  refine lv_aload_n hx hb d_LW_law_195 rfl (lv_at hl 0 rfl) ?_
  refine lv_iload hx hb d_LW_law_196 (lv_at hl 4 rfl) ?_
  refine lv_iconst (v := (2:Int32)) hx hb d_LW_law_198 (by decide) ?_
  refine lv_iadd hx hb d_LW_law_199 ?_
  refine va_sld hx hb hX hbl hbA hS hi2 d_LW_law_200 ?_
  refine lv_aload_n hx hb d_LW_law_201 rfl (lv_at hl 3 rfl) ?_
  refine o_SW (rest := []) (st1 := [.int (1:Int32)]) (As := [.ref (ad 0), .int (1:Int32), .int (xs (i + (2:Int32)).toNatClampNeg), .ref o]) hE.1 C1 (lh_end_1 hE hT l hfl n (1:Int32) (xs (i + (2:Int32)).toNatClampNeg) Sj T0 T1 Rd Pg Pt Mk Lk Ck Jd Ld Pr T0' T1' Rd' Ck' Sj' rt rt' v f h) hK1 hP1 (o_Dl (hDD f rt Sj T0 T1 Rd Pg Pt Mk Lk Ck Jd Ld Pr rt2 Ni Np No Nx Nf Na Nh Nq Nj M0 M1)) hS hl.1 k_3_9 k_3_10 k_1_0 kw_LW_end hs_LW_end rfl rfl ⟨(Nat.le_of_ble_eq_true rfl), (Nat.le_of_ble_eq_true rfl)⟩ rfl (Nat.le_of_ble_eq_true rfl) ⟨hcs, hss⟩ rfl d_LW_law_202 (fun H1 locs1 hQ1 hk hS1 => ?_)
  have hP2 := o_keep2 (hDD f rt Sj T0 T1 Rd Pg Pt Mk Lk Ck Jd Ld Pr rt2 Ni Np No Nx Nf Na Nh Nq Nj M0 M1) hP2 hk
  have hP1 := hQ1
  have hS := hS1
  refine lv_istore (lv' := [(5, .int (1:Int32)), (0, .ref b), (1, .ref (ad 0)), (2, .ref (ad2 0)), (3, .ref o), (4, .int i)]) hx hb d_LW_law_205 hl (by decide) rfl (fun ls hl => ?_)
  refine lv_aload_n hx hb d_LW_law_207 rfl (lv_at hl 3 rfl) ?_
  refine lv_aload_n hx hb d_LW_law_208 rfl (lv_at hl 1 rfl) ?_
  refine lv_iload hx hb d_LW_law_209 (lv_at hl 5 rfl) ?_
  refine lv_iconst (v := (1:Int32)) hx hb d_LW_law_211 (by decide) ?_
  refine lv_iadd hx hb d_LW_law_212 ?_
  refine va_sld hx hb hX hbl hbA hS hi1 d_LW_law_213 ?_
  refine lv_if_eq (tgt := 221) hx hb d_LW_law_214 (by decide) (fun z => absurd z hb0) (fun _ => ?_)
  refine lv_iconst (v := (1:Int32)) hx hb d_LW_law_217 (by decide) ?_
  refine lv_goto (tgt := 222) hx hb d_LW_law_218 (by decide) ?_
  refine lv_aload_n hx hb d_LW_law_222 rfl (lv_at hl 1 rfl) ?_
  refine lv_iload hx hb d_LW_law_223 (lv_at hl 5 rfl) ?_
  refine lv_iconst (v := (2:Int32)) hx hb d_LW_law_225 (by decide) ?_
  refine lv_iadd hx hb d_LW_law_226 ?_
  refine va_sld hx hb hX hbl hbA hS hi2 d_LW_law_227 ?_
  refine o_VF (rest := []) (st1 := [.int v2]) (As := [.int (1:Int32), .int (xs (i + (2:Int32)).toNatClampNeg)]) (w1 := (m_cw ad2 ca2 ky ty rt2 Ni' Np No Nx Nf' Na Nh Nq Nj M0' M1')) hE.1 C2 (e_MM_end hE hKy l n2 (1:Int32) (xs (i + (2:Int32)).toNatClampNeg) M0 M1 Ni Nf Np No Nx Na Nh Nq Nj rt2 h2) hP2 (o_Dr (hDD f rt' Sj' T0' T1' Rd' Pg Pt Mk Lk Ck' Jd Ld Pr rt2 Ni Np No Nx Nf Na Nh Nq Nj M0 M1)) hS hl.1 rfl mw_0 k_8_180 k_8_181 k_8_182 k_1_12 k_8_183 hv_MM_end rfl rfl ⟨(Nat.le_of_ble_eq_true rfl), (Nat.le_of_ble_eq_true rfl)⟩ rfl (Nat.le_of_ble_eq_true rfl) ⟨by omega, by omega⟩ rfl d_LW_law_228 (fun H1 locs1 hQ2 hk hS1 => ?_)
  have hP1 := o_keep1 (hDD f rt' Sj' T0' T1' Rd' Pg Pt Mk Lk Ck' Jd Ld Pr rt2 Ni Np No Nx Nf Na Nh Nq Nj M0 M1) hP1 hk
  have hP2 := hQ2
  have hS := hS1
  refine lv_istore (lv' := [(6, .int v2), (5, .int (1:Int32)), (0, .ref b), (1, .ref (ad 0)), (2, .ref (ad2 0)), (3, .ref o), (4, .int i)]) hx hb d_LW_law_231 hl (by decide) rfl (fun ls hl => ?_)
  refine lv_goto (tgt := 574) hx hb d_LW_law_233 (by decide) ?_
  exact kk _ _ _ hP1 hP2 hS (lv_sub hl [2, 3, 4, 5, 6] rfl)
set_option maxHeartbeats 4000000 in
set_option maxRecDepth 100000 in
theorem la_end_2_b0 {E : (Nat → Prop) → State → Heap → Prop} {p : Program} {l : Launch} {e : Env} {s : State} {m : MethodId} {args : Array Value} {below : List Frame} {meth : Method} {c : Code} {D1 D2 : va_G} {ad ad2 kd sd vd xd : Nat → Nat} {ca ca2 : Nat → ClassId} {ky ty : Nat → Option Nat} {cO : ClassId} {o b L : Nat} {xs : Nat → Int32} {A : Nat → Prop} {Q : State → Prop} {H : Heap} {locs : List Loc} {cells slots : Nat} {ls : Array Slot} {i : Int32} (hE : o_EK E kd sd vd xd) (hKy : m_KY ky ty sd) (hT : o_ET E) (hfl : l.flags = pinnedFlags ++ [noTraceFlag]) (C1 : o_Cx E p s m args meth c D1 o_cls ((cO, .long) :: o_tys ca) "SchemaJudgeLaw" code (some .boolean) 7 (.tt) A) (C1a : o_Cx E p s m args meth c D1 o_cls (o_tys ca) "SchemaJudgeLaw" code (some .boolean) 7 (.tt) A) (C2 : o_Cx E p s m args meth c D2 m_cls (m_tys ca2) "SchemaJudgeLaw" code (some .boolean) 7 (.tt) A) (hX : va_X b L xs s s.heap) (hbl : b < s.heap.size) (hbA : ¬ A b) (hDD : ∀ (f : Nat → Int64) (rt : Nat) (Sj : SSJ) (T0 : STx) (T1 : STx) (Rd : SRd) (Pg : SPg) (Pt : SPt) (Mk : SMk) (Lk : SLk) (Ck : SCk) (Jd : SJd) (Ld : SLd) (Pr : SPr) (rt2 : Nat) (Ni : SNI) (Np : SNP) (No : SNO) (Nx : SNX) (Nf : SNF) (Na : SNA) (Nh : SNH) (Nq : SNQ) (Nj : SNJ) (M0 : SMT) (M1 : SMT), va_D A (((o, .inl (cO, 1, .inr (.inl f))) :: o_cw ad ca rt Sj T0 T1 Rd Pg Pt Mk Lk Ck Jd Ld Pr) ++ m_cw ad2 ca2 ky ty rt2 Ni Np No Nx Nf Na Nh Nq Nj M0 M1)) (hi1 : vp_in (i + (1:Int32)) L) (hi2 : vp_in (i + (2:Int32)) L) (hi3 : vp_in (i + (3:Int32)) L) (hi4 : vp_in (i + (4:Int32)) L) (hi5 : vp_in (i + (5:Int32)) L) (hcs : cells + 1 ≤ room_1.cells) (hss : slots + 6 ≤ room_1.slots) (n : Nat) (n2 : Nat) (Sj : SSJ) (T0 : STx) (T1 : STx) (Rd : SRd) (Pg : SPg) (Pt : SPt) (Mk : SMk) (Lk : SLk) (Ck : SCk) (Jd : SJd) (Ld : SLd) (Pr : SPr) (rt : Nat) (rt2 : Nat) (Ni : SNI) (Np : SNP) (No : SNO) (Nx : SNX) (Nf : SNF) (Na : SNA) (Nh : SNH) (Nq : SNQ) (Nj : SNJ) (M0 : SMT) (M1 : SMT) (f : Nat → Int64) (T0' : STx) (T1' : STx) (Rd' : SRd) (Ck' : SCk) (Sj' : SSJ) (rt' : Nat) (v : Int32) (v2 : Int32) (M0' : SMT) (M1' : SMT) (Ni' : SNI) (Nf' : SNF) (h : m_SJ_end n rt (0:Int32) (xs (i + (2:Int32)).toNatClampNeg) T0 T1 Rd Ck Sj = some (2, v, T0', T1', Rd', Ck', Sj', rt')) (hb0 : (xs (i + (1:Int32)).toNatClampNeg) = 0) (h2 : m_MM_end n2 (0:Int32) (xs (i + (2:Int32)).toNatClampNeg) M0 M1 Ni Nf = some (v2, M0', M1', Ni', Nf')) (hP1 : va_P D1 o_cls ((o, .inl (cO, 1, .inr (.inl f))) :: o_cw ad ca rt Sj T0 T1 Rd Pg Pt Mk Lk Ck Jd Ld Pr) H) (hP2 : va_P D2 m_cls (m_cw ad2 ca2 ky ty rt2 Ni Np No Nx Nf Na Nh Nq Nj M0 M1) H) (hS : va_S A s.heap H locs) (hl : lv_has ls 7 [(0, .ref b), (1, .ref (ad 0)), (2, .ref (ad2 0)), (3, .ref o), (4, .int i)]) (kk : ∀ (H : Heap) (locs : List Loc) (ls : Array Slot), va_P D1 o_cls ((o, .inl (cO, 1, .inr (.inl f))) :: o_cw ad ca rt' Sj' T0' T1' Rd' Pg Pt Mk Lk Ck' Jd Ld Pr) H → va_P D2 m_cls (m_cw ad2 ca2 ky ty rt2 Ni' Np No Nx Nf' Na Nh Nq Nj M0' M1') H → va_S A s.heap H locs → lv_has ls 7 [(0, .ref b), (1, .ref (ad 0)), (2, .ref (ad2 0)), (3, .ref o), (4, .int i)] → W p l e room_1 s m args below meth c H locs (cells + 1) (slots + 6) Q (F0 m 574 ls [])) : W p l e room_1 s m args below meth c H locs cells slots Q (F0 m 180 ls []) := by
  have C0 := C1
  obtain ⟨hx, hb, -, -, -, hown, hts, hK1, -, -⟩ := C0
  refine lv_aload_n hx hb d_LW_law_180 rfl (lv_at hl 1 rfl) ?_
  refine lv_aload_n hx hb d_LW_law_181 rfl (lv_at hl 0 rfl) ?_
  refine lv_iload hx hb d_LW_law_182 (lv_at hl 4 rfl) ?_
  refine lv_iconst (v := (1:Int32)) hx hb d_LW_law_184 (by decide) ?_
  refine lv_iadd hx hb d_LW_law_185 ?_
  refine va_sld hx hb hX hbl hbA hS hi1 d_LW_law_186 ?_
  refine lv_if_eq (tgt := 194) hx hb d_LW_law_187 (by decide) (fun _ => ?_) (fun z => absurd hb0 z)
  refine lv_iconst (v := (0:Int32)) hx hb d_LW_law_194 (by decide) ?_
  refine lv_aload_n hx hb d_LW_law_195 rfl (lv_at hl 0 rfl) ?_
  refine lv_iload hx hb d_LW_law_196 (lv_at hl 4 rfl) ?_
  refine lv_iconst (v := (2:Int32)) hx hb d_LW_law_198 (by decide) ?_
  refine lv_iadd hx hb d_LW_law_199 ?_
  refine va_sld hx hb hX hbl hbA hS hi2 d_LW_law_200 ?_
  refine lv_aload_n hx hb d_LW_law_201 rfl (lv_at hl 3 rfl) ?_
  refine o_SW (rest := []) (st1 := [.int (2:Int32)]) (As := [.ref (ad 0), .int (0:Int32), .int (xs (i + (2:Int32)).toNatClampNeg), .ref o]) hE.1 C1 (lh_end_2 hE hT l hfl n (0:Int32) (xs (i + (2:Int32)).toNatClampNeg) Sj T0 T1 Rd Pg Pt Mk Lk Ck Jd Ld Pr T0' T1' Rd' Ck' Sj' rt rt' v f h) hK1 hP1 (o_Dl (hDD f rt Sj T0 T1 Rd Pg Pt Mk Lk Ck Jd Ld Pr rt2 Ni Np No Nx Nf Na Nh Nq Nj M0 M1)) hS hl.1 k_3_9 k_3_10 k_1_0 kw_LW_end hs_LW_end rfl rfl ⟨(Nat.le_of_ble_eq_true rfl), (Nat.le_of_ble_eq_true rfl)⟩ rfl (Nat.le_of_ble_eq_true rfl) ⟨hcs, hss⟩ rfl d_LW_law_202 (fun H1 locs1 hQ1 hk hS1 => ?_)
  have hP2 := o_keep2 (hDD f rt Sj T0 T1 Rd Pg Pt Mk Lk Ck Jd Ld Pr rt2 Ni Np No Nx Nf Na Nh Nq Nj M0 M1) hP2 hk
  have hP1 := hQ1
  have hS := hS1
  refine lv_istore (lv' := [(5, .int (2:Int32)), (0, .ref b), (1, .ref (ad 0)), (2, .ref (ad2 0)), (3, .ref o), (4, .int i)]) hx hb d_LW_law_205 hl (by decide) rfl (fun ls hl => ?_)
  refine lv_aload_n hx hb d_LW_law_207 rfl (lv_at hl 3 rfl) ?_
  refine lv_aload_n hx hb d_LW_law_208 rfl (lv_at hl 1 rfl) ?_
  refine lv_iload hx hb d_LW_law_209 (lv_at hl 5 rfl) ?_
  refine lv_iconst (v := (1:Int32)) hx hb d_LW_law_211 (by decide) ?_
  refine lv_iadd hx hb d_LW_law_212 ?_
  refine va_sld hx hb hX hbl hbA hS hi1 d_LW_law_213 ?_
  refine lv_if_eq (tgt := 221) hx hb d_LW_law_214 (by decide) (fun _ => ?_) (fun z => absurd hb0 z)
  refine lv_iconst (v := (0:Int32)) hx hb d_LW_law_221 (by decide) ?_
  refine lv_aload_n hx hb d_LW_law_222 rfl (lv_at hl 1 rfl) ?_
  refine lv_iload hx hb d_LW_law_223 (lv_at hl 5 rfl) ?_
  refine lv_iconst (v := (2:Int32)) hx hb d_LW_law_225 (by decide) ?_
  refine lv_iadd hx hb d_LW_law_226 ?_
  refine va_sld hx hb hX hbl hbA hS hi2 d_LW_law_227 ?_
  refine o_VF (rest := []) (st1 := [.int v2]) (As := [.int (0:Int32), .int (xs (i + (2:Int32)).toNatClampNeg)]) (w1 := (m_cw ad2 ca2 ky ty rt2 Ni' Np No Nx Nf' Na Nh Nq Nj M0' M1')) hE.1 C2 (e_MM_end hE hKy l n2 (0:Int32) (xs (i + (2:Int32)).toNatClampNeg) M0 M1 Ni Nf Np No Nx Na Nh Nq Nj rt2 h2) hP2 (o_Dr (hDD f rt' Sj' T0' T1' Rd' Pg Pt Mk Lk Ck' Jd Ld Pr rt2 Ni Np No Nx Nf Na Nh Nq Nj M0 M1)) hS hl.1 rfl mw_0 k_8_180 k_8_181 k_8_182 k_1_12 k_8_183 hv_MM_end rfl rfl ⟨(Nat.le_of_ble_eq_true rfl), (Nat.le_of_ble_eq_true rfl)⟩ rfl (Nat.le_of_ble_eq_true rfl) ⟨by omega, by omega⟩ rfl d_LW_law_228 (fun H1 locs1 hQ2 hk hS1 => ?_)
  have hP1 := o_keep1 (hDD f rt' Sj' T0' T1' Rd' Pg Pt Mk Lk Ck' Jd Ld Pr rt2 Ni Np No Nx Nf Na Nh Nq Nj M0 M1) hP1 hk
  have hP2 := hQ2
  have hS := hS1
  refine lv_istore (lv' := [(6, .int v2), (5, .int (2:Int32)), (0, .ref b), (1, .ref (ad 0)), (2, .ref (ad2 0)), (3, .ref o), (4, .int i)]) hx hb d_LW_law_231 hl (by decide) rfl (fun ls hl => ?_)
  refine lv_goto (tgt := 574) hx hb d_LW_law_233 (by decide) ?_
  exact kk _ _ _ hP1 hP2 hS (lv_sub hl [2, 3, 4, 5, 6] rfl)
set_option maxHeartbeats 4000000 in
set_option maxRecDepth 100000 in
theorem la_end_2_b1 {E : (Nat → Prop) → State → Heap → Prop} {p : Program} {l : Launch} {e : Env} {s : State} {m : MethodId} {args : Array Value} {below : List Frame} {meth : Method} {c : Code} {D1 D2 : va_G} {ad ad2 kd sd vd xd : Nat → Nat} {ca ca2 : Nat → ClassId} {ky ty : Nat → Option Nat} {cO : ClassId} {o b L : Nat} {xs : Nat → Int32} {A : Nat → Prop} {Q : State → Prop} {H : Heap} {locs : List Loc} {cells slots : Nat} {ls : Array Slot} {i : Int32} (hE : o_EK E kd sd vd xd) (hKy : m_KY ky ty sd) (hT : o_ET E) (hfl : l.flags = pinnedFlags ++ [noTraceFlag]) (C1 : o_Cx E p s m args meth c D1 o_cls ((cO, .long) :: o_tys ca) "SchemaJudgeLaw" code (some .boolean) 7 (.tt) A) (C1a : o_Cx E p s m args meth c D1 o_cls (o_tys ca) "SchemaJudgeLaw" code (some .boolean) 7 (.tt) A) (C2 : o_Cx E p s m args meth c D2 m_cls (m_tys ca2) "SchemaJudgeLaw" code (some .boolean) 7 (.tt) A) (hX : va_X b L xs s s.heap) (hbl : b < s.heap.size) (hbA : ¬ A b) (hDD : ∀ (f : Nat → Int64) (rt : Nat) (Sj : SSJ) (T0 : STx) (T1 : STx) (Rd : SRd) (Pg : SPg) (Pt : SPt) (Mk : SMk) (Lk : SLk) (Ck : SCk) (Jd : SJd) (Ld : SLd) (Pr : SPr) (rt2 : Nat) (Ni : SNI) (Np : SNP) (No : SNO) (Nx : SNX) (Nf : SNF) (Na : SNA) (Nh : SNH) (Nq : SNQ) (Nj : SNJ) (M0 : SMT) (M1 : SMT), va_D A (((o, .inl (cO, 1, .inr (.inl f))) :: o_cw ad ca rt Sj T0 T1 Rd Pg Pt Mk Lk Ck Jd Ld Pr) ++ m_cw ad2 ca2 ky ty rt2 Ni Np No Nx Nf Na Nh Nq Nj M0 M1)) (hi1 : vp_in (i + (1:Int32)) L) (hi2 : vp_in (i + (2:Int32)) L) (hi3 : vp_in (i + (3:Int32)) L) (hi4 : vp_in (i + (4:Int32)) L) (hi5 : vp_in (i + (5:Int32)) L) (hcs : cells + 1 ≤ room_1.cells) (hss : slots + 6 ≤ room_1.slots) (n : Nat) (n2 : Nat) (Sj : SSJ) (T0 : STx) (T1 : STx) (Rd : SRd) (Pg : SPg) (Pt : SPt) (Mk : SMk) (Lk : SLk) (Ck : SCk) (Jd : SJd) (Ld : SLd) (Pr : SPr) (rt : Nat) (rt2 : Nat) (Ni : SNI) (Np : SNP) (No : SNO) (Nx : SNX) (Nf : SNF) (Na : SNA) (Nh : SNH) (Nq : SNQ) (Nj : SNJ) (M0 : SMT) (M1 : SMT) (f : Nat → Int64) (T0' : STx) (T1' : STx) (Rd' : SRd) (Ck' : SCk) (Sj' : SSJ) (rt' : Nat) (v : Int32) (v2 : Int32) (M0' : SMT) (M1' : SMT) (Ni' : SNI) (Nf' : SNF) (h : m_SJ_end n rt (1:Int32) (xs (i + (2:Int32)).toNatClampNeg) T0 T1 Rd Ck Sj = some (2, v, T0', T1', Rd', Ck', Sj', rt')) (hb0 : ¬ (xs (i + (1:Int32)).toNatClampNeg) = 0) (h2 : m_MM_end n2 (1:Int32) (xs (i + (2:Int32)).toNatClampNeg) M0 M1 Ni Nf = some (v2, M0', M1', Ni', Nf')) (hP1 : va_P D1 o_cls ((o, .inl (cO, 1, .inr (.inl f))) :: o_cw ad ca rt Sj T0 T1 Rd Pg Pt Mk Lk Ck Jd Ld Pr) H) (hP2 : va_P D2 m_cls (m_cw ad2 ca2 ky ty rt2 Ni Np No Nx Nf Na Nh Nq Nj M0 M1) H) (hS : va_S A s.heap H locs) (hl : lv_has ls 7 [(0, .ref b), (1, .ref (ad 0)), (2, .ref (ad2 0)), (3, .ref o), (4, .int i)]) (kk : ∀ (H : Heap) (locs : List Loc) (ls : Array Slot), va_P D1 o_cls ((o, .inl (cO, 1, .inr (.inl f))) :: o_cw ad ca rt' Sj' T0' T1' Rd' Pg Pt Mk Lk Ck' Jd Ld Pr) H → va_P D2 m_cls (m_cw ad2 ca2 ky ty rt2 Ni' Np No Nx Nf' Na Nh Nq Nj M0' M1') H → va_S A s.heap H locs → lv_has ls 7 [(0, .ref b), (1, .ref (ad 0)), (2, .ref (ad2 0)), (3, .ref o), (4, .int i)] → W p l e room_1 s m args below meth c H locs (cells + 1) (slots + 6) Q (F0 m 574 ls [])) : W p l e room_1 s m args below meth c H locs cells slots Q (F0 m 180 ls []) := by
  have C0 := C1
  obtain ⟨hx, hb, -, -, -, hown, hts, hK1, -, -⟩ := C0
  refine lv_aload_n hx hb d_LW_law_180 rfl (lv_at hl 1 rfl) ?_
  refine lv_aload_n hx hb d_LW_law_181 rfl (lv_at hl 0 rfl) ?_
  refine lv_iload hx hb d_LW_law_182 (lv_at hl 4 rfl) ?_
  refine lv_iconst (v := (1:Int32)) hx hb d_LW_law_184 (by decide) ?_
  refine lv_iadd hx hb d_LW_law_185 ?_
  refine va_sld hx hb hX hbl hbA hS hi1 d_LW_law_186 ?_
  refine lv_if_eq (tgt := 194) hx hb d_LW_law_187 (by decide) (fun z => absurd z hb0) (fun _ => ?_)
  refine lv_iconst (v := (1:Int32)) hx hb d_LW_law_190 (by decide) ?_
  refine lv_goto (tgt := 195) hx hb d_LW_law_191 (by decide) ?_
  refine lv_aload_n hx hb d_LW_law_195 rfl (lv_at hl 0 rfl) ?_
  refine lv_iload hx hb d_LW_law_196 (lv_at hl 4 rfl) ?_
  refine lv_iconst (v := (2:Int32)) hx hb d_LW_law_198 (by decide) ?_
  refine lv_iadd hx hb d_LW_law_199 ?_
  refine va_sld hx hb hX hbl hbA hS hi2 d_LW_law_200 ?_
  refine lv_aload_n hx hb d_LW_law_201 rfl (lv_at hl 3 rfl) ?_
  refine o_SW (rest := []) (st1 := [.int (2:Int32)]) (As := [.ref (ad 0), .int (1:Int32), .int (xs (i + (2:Int32)).toNatClampNeg), .ref o]) hE.1 C1 (lh_end_2 hE hT l hfl n (1:Int32) (xs (i + (2:Int32)).toNatClampNeg) Sj T0 T1 Rd Pg Pt Mk Lk Ck Jd Ld Pr T0' T1' Rd' Ck' Sj' rt rt' v f h) hK1 hP1 (o_Dl (hDD f rt Sj T0 T1 Rd Pg Pt Mk Lk Ck Jd Ld Pr rt2 Ni Np No Nx Nf Na Nh Nq Nj M0 M1)) hS hl.1 k_3_9 k_3_10 k_1_0 kw_LW_end hs_LW_end rfl rfl ⟨(Nat.le_of_ble_eq_true rfl), (Nat.le_of_ble_eq_true rfl)⟩ rfl (Nat.le_of_ble_eq_true rfl) ⟨hcs, hss⟩ rfl d_LW_law_202 (fun H1 locs1 hQ1 hk hS1 => ?_)
  have hP2 := o_keep2 (hDD f rt Sj T0 T1 Rd Pg Pt Mk Lk Ck Jd Ld Pr rt2 Ni Np No Nx Nf Na Nh Nq Nj M0 M1) hP2 hk
  have hP1 := hQ1
  have hS := hS1
  refine lv_istore (lv' := [(5, .int (2:Int32)), (0, .ref b), (1, .ref (ad 0)), (2, .ref (ad2 0)), (3, .ref o), (4, .int i)]) hx hb d_LW_law_205 hl (by decide) rfl (fun ls hl => ?_)
  refine lv_aload_n hx hb d_LW_law_207 rfl (lv_at hl 3 rfl) ?_
  refine lv_aload_n hx hb d_LW_law_208 rfl (lv_at hl 1 rfl) ?_
  refine lv_iload hx hb d_LW_law_209 (lv_at hl 5 rfl) ?_
  refine lv_iconst (v := (1:Int32)) hx hb d_LW_law_211 (by decide) ?_
  refine lv_iadd hx hb d_LW_law_212 ?_
  refine va_sld hx hb hX hbl hbA hS hi1 d_LW_law_213 ?_
  refine lv_if_eq (tgt := 221) hx hb d_LW_law_214 (by decide) (fun z => absurd z hb0) (fun _ => ?_)
  refine lv_iconst (v := (1:Int32)) hx hb d_LW_law_217 (by decide) ?_
  refine lv_goto (tgt := 222) hx hb d_LW_law_218 (by decide) ?_
  refine lv_aload_n hx hb d_LW_law_222 rfl (lv_at hl 1 rfl) ?_
  refine lv_iload hx hb d_LW_law_223 (lv_at hl 5 rfl) ?_
  refine lv_iconst (v := (2:Int32)) hx hb d_LW_law_225 (by decide) ?_
  refine lv_iadd hx hb d_LW_law_226 ?_
  refine va_sld hx hb hX hbl hbA hS hi2 d_LW_law_227 ?_
  refine o_VF (rest := []) (st1 := [.int v2]) (As := [.int (1:Int32), .int (xs (i + (2:Int32)).toNatClampNeg)]) (w1 := (m_cw ad2 ca2 ky ty rt2 Ni' Np No Nx Nf' Na Nh Nq Nj M0' M1')) hE.1 C2 (e_MM_end hE hKy l n2 (1:Int32) (xs (i + (2:Int32)).toNatClampNeg) M0 M1 Ni Nf Np No Nx Na Nh Nq Nj rt2 h2) hP2 (o_Dr (hDD f rt' Sj' T0' T1' Rd' Pg Pt Mk Lk Ck' Jd Ld Pr rt2 Ni Np No Nx Nf Na Nh Nq Nj M0 M1)) hS hl.1 rfl mw_0 k_8_180 k_8_181 k_8_182 k_1_12 k_8_183 hv_MM_end rfl rfl ⟨(Nat.le_of_ble_eq_true rfl), (Nat.le_of_ble_eq_true rfl)⟩ rfl (Nat.le_of_ble_eq_true rfl) ⟨by omega, by omega⟩ rfl d_LW_law_228 (fun H1 locs1 hQ2 hk hS1 => ?_)
  have hP1 := o_keep1 (hDD f rt' Sj' T0' T1' Rd' Pg Pt Mk Lk Ck' Jd Ld Pr rt2 Ni Np No Nx Nf Na Nh Nq Nj M0 M1) hP1 hk
  have hP2 := hQ2
  have hS := hS1
  refine lv_istore (lv' := [(6, .int v2), (5, .int (2:Int32)), (0, .ref b), (1, .ref (ad 0)), (2, .ref (ad2 0)), (3, .ref o), (4, .int i)]) hx hb d_LW_law_231 hl (by decide) rfl (fun ls hl => ?_)
  refine lv_goto (tgt := 574) hx hb d_LW_law_233 (by decide) ?_
  exact kk _ _ _ hP1 hP2 hS (lv_sub hl [2, 3, 4, 5, 6] rfl)
set_option maxHeartbeats 4000000 in
set_option maxRecDepth 100000 in
theorem la_wrong {E : (Nat → Prop) → State → Heap → Prop} {p : Program} {l : Launch} {e : Env} {s : State} {m : MethodId} {args : Array Value} {below : List Frame} {meth : Method} {c : Code} {D1 D2 : va_G} {ad ad2 kd sd vd xd : Nat → Nat} {ca ca2 : Nat → ClassId} {ky ty : Nat → Option Nat} {cO : ClassId} {o b L : Nat} {xs : Nat → Int32} {A : Nat → Prop} {Q : State → Prop} {H : Heap} {locs : List Loc} {cells slots : Nat} {ls : Array Slot} {i : Int32} (hE : o_EK E kd sd vd xd) (hKy : m_KY ky ty sd) (hT : o_ET E) (hfl : l.flags = pinnedFlags ++ [noTraceFlag]) (C1 : o_Cx E p s m args meth c D1 o_cls ((cO, .long) :: o_tys ca) "SchemaJudgeLaw" code (some .boolean) 7 (.tt) A) (C1a : o_Cx E p s m args meth c D1 o_cls (o_tys ca) "SchemaJudgeLaw" code (some .boolean) 7 (.tt) A) (C2 : o_Cx E p s m args meth c D2 m_cls (m_tys ca2) "SchemaJudgeLaw" code (some .boolean) 7 (.tt) A) (hX : va_X b L xs s s.heap) (hbl : b < s.heap.size) (hbA : ¬ A b) (hDD : ∀ (f : Nat → Int64) (rt : Nat) (Sj : SSJ) (T0 : STx) (T1 : STx) (Rd : SRd) (Pg : SPg) (Pt : SPt) (Mk : SMk) (Lk : SLk) (Ck : SCk) (Jd : SJd) (Ld : SLd) (Pr : SPr) (rt2 : Nat) (Ni : SNI) (Np : SNP) (No : SNO) (Nx : SNX) (Nf : SNF) (Na : SNA) (Nh : SNH) (Nq : SNQ) (Nj : SNJ) (M0 : SMT) (M1 : SMT), va_D A (((o, .inl (cO, 1, .inr (.inl f))) :: o_cw ad ca rt Sj T0 T1 Rd Pg Pt Mk Lk Ck Jd Ld Pr) ++ m_cw ad2 ca2 ky ty rt2 Ni Np No Nx Nf Na Nh Nq Nj M0 M1)) (hi1 : vp_in (i + (1:Int32)) L) (hi2 : vp_in (i + (2:Int32)) L) (hi3 : vp_in (i + (3:Int32)) L) (hi4 : vp_in (i + (4:Int32)) L) (hi5 : vp_in (i + (5:Int32)) L) (hcs : cells + 1 ≤ room_1.cells) (hss : slots + 6 ≤ room_1.slots) (Sj : SSJ) (T0 : STx) (T1 : STx) (Rd : SRd) (Pg : SPg) (Pt : SPt) (Mk : SMk) (Lk : SLk) (Ck : SCk) (Jd : SJd) (Ld : SLd) (Pr : SPr) (rt : Nat) (rt2 : Nat) (Ni : SNI) (Np : SNP) (No : SNO) (Nx : SNX) (Nf : SNF) (Na : SNA) (Nh : SNH) (Nq : SNQ) (Nj : SNJ) (M0 : SMT) (M1 : SMT) (f : Nat → Int64) (v : Int32) (v2 : Int32) (Ni' : SNI) (h : m_SJ_wrong Sj = some v) (h2 : m_MM_wrong Ni = some (v2, Ni')) (hP1 : va_P D1 o_cls ((o, .inl (cO, 1, .inr (.inl f))) :: o_cw ad ca rt Sj T0 T1 Rd Pg Pt Mk Lk Ck Jd Ld Pr) H) (hP2 : va_P D2 m_cls (m_cw ad2 ca2 ky ty rt2 Ni Np No Nx Nf Na Nh Nq Nj M0 M1) H) (hS : va_S A s.heap H locs) (hl : lv_has ls 7 [(0, .ref b), (1, .ref (ad 0)), (2, .ref (ad2 0)), (3, .ref o), (4, .int i)]) (kk : ∀ (H : Heap) (locs : List Loc) (ls : Array Slot), va_P D1 o_cls ((o, .inl (cO, 1, .inr (.inl f))) :: o_cw ad ca rt Sj T0 T1 Rd Pg Pt Mk Lk Ck Jd Ld Pr) H → va_P D2 m_cls (m_cw ad2 ca2 ky ty rt2 Ni' Np No Nx Nf Na Nh Nq Nj M0 M1) H → va_S A s.heap H locs → lv_has ls 7 [(0, .ref b), (1, .ref (ad 0)), (2, .ref (ad2 0)), (3, .ref o), (4, .int i)] → W p l e room_1 s m args below meth c H locs cells slots Q (F0 m 574 ls [])) : W p l e room_1 s m args below meth c H locs cells slots Q (F0 m 236 ls []) := by
  have C0 := C1
  obtain ⟨hx, hb, -, -, -, hown, hts, hK1, -, -⟩ := C0
  refine lv_aload_n hx hb d_LW_law_236 rfl (lv_at hl 1 rfl) ?_
  refine o_VF (rest := []) (st1 := [.int v]) (As := []) (w1 := (o_cw ad ca rt Sj T0 T1 Rd Pg Pt Mk Lk Ck Jd Ld Pr)) hE.1 C1a (c_SJ_wrong hE l Sj T0 T1 Rd Pg Pt Mk Lk Ck Jd Ld Pr rt h) (show va_P D1 o_cls (o_cw ad ca rt Sj T0 T1 Rd Pg Pt Mk Lk Ck Jd Ld Pr) _ from hP1.sub [1, 2, 3, 4, 5, 6, 7, 8, 9, 10, 11, 12, 13, 14, 15, 16, 17, 18, 19, 20, 21, 22, 23, 24, 25, 26, 27, 28, 29, 30, 31, 32, 33, 34, 35, 36, 37, 38, 39, 40, 41, 42, 43, 44, 45, 46, 47, 48, 49, 50, 51, 52, 53, 54, 55, 56, 57] rfl) ((o_Dl (hDD f rt Sj T0 T1 Rd Pg Pt Mk Lk Ck Jd Ld Pr rt2 Ni Np No Nx Nf Na Nh Nq Nj M0 M1)).sub [1, 2, 3, 4, 5, 6, 7, 8, 9, 10, 11, 12, 13, 14, 15, 16, 17, 18, 19, 20, 21, 22, 23, 24, 25, 26, 27, 28, 29, 30, 31, 32, 33, 34, 35, 36, 37, 38, 39, 40, 41, 42, 43, 44, 45, 46, 47, 48, 49, 50, 51, 52, 53, 54, 55, 56, 57] rfl rfl) hS hl.1 rfl cw_0 k_2_136 k_2_137 k_2_138 k_1_1 k_2_139 hv_SJ_wrong rfl rfl ⟨(Nat.le_of_ble_eq_true rfl), (Nat.le_of_ble_eq_true rfl)⟩ rfl (Nat.le_of_ble_eq_true rfl) ⟨by omega, by omega⟩ rfl d_LW_law_237 (fun H1 locs1 hQ1 hk hS1 => ?_)
  have hP2 := o_keep2 (w1 := (o_cw ad ca rt Sj T0 T1 Rd Pg Pt Mk Lk Ck Jd Ld Pr)) (o_Dl2 (hDD f rt Sj T0 T1 Rd Pg Pt Mk Lk Ck Jd Ld Pr rt2 Ni Np No Nx Nf Na Nh Nq Nj M0 M1)) hP2 hk
  have hP1 : va_P D1 o_cls ((o, .inl (cO, 1, .inr (.inl f))) :: o_cw ad ca rt Sj T0 T1 Rd Pg Pt Mk Lk Ck Jd Ld Pr) H1 := (va_join (wr := [(o, .inl (cO, 1, .inr (.inl f)))]) hP1 (o_Dl (hDD f rt Sj T0 T1 Rd Pg Pt Mk Lk Ck Jd Ld Pr rt2 Ni Np No Nx Nf Na Nh Nq Nj M0 M1)) [1, 2, 3, 4, 5, 6, 7, 8, 9, 10, 11, 12, 13, 14, 15, 16, 17, 18, 19, 20, 21, 22, 23, 24, 25, 26, 27, 28, 29, 30, 31, 32, 33, 34, 35, 36, 37, 38, 39, 40, 41, 42, 43, 44, 45, 46, 47, 48, 49, 50, 51, 52, 53, 54, 55, 56, 57] [0] rfl rfl rfl (by decide) hk (va_free (o_Dl (hDD f rt Sj T0 T1 Rd Pg Pt Mk Lk Ck Jd Ld Pr rt2 Ni Np No Nx Nf Na Nh Nq Nj M0 M1)) hS C1.2.2.2.2.2.2.2.2.1 [1, 2, 3, 4, 5, 6, 7, 8, 9, 10, 11, 12, 13, 14, 15, 16, 17, 18, 19, 20, 21, 22, 23, 24, 25, 26, 27, 28, 29, 30, 31, 32, 33, 34, 35, 36, 37, 38, 39, 40, 41, 42, 43, 44, 45, 46, 47, 48, 49, 50, 51, 52, 53, 54, 55, 56, 57] rfl) hQ1 (o_D_map ((o_Dl (hDD f rt Sj T0 T1 Rd Pg Pt Mk Lk Ck Jd Ld Pr rt2 Ni Np No Nx Nf Na Nh Nq Nj M0 M1)).sub [1, 2, 3, 4, 5, 6, 7, 8, 9, 10, 11, 12, 13, 14, 15, 16, 17, 18, 19, 20, 21, 22, 23, 24, 25, 26, 27, 28, 29, 30, 31, 32, 33, 34, 35, 36, 37, 38, 39, 40, 41, 42, 43, 44, 45, 46, 47, 48, 49, 50, 51, 52, 53, 54, 55, 56, 57] rfl rfl).self rfl)).1
  have hS := hS1
  refine lv_pop hx hb d_LW_law_240 rfl ?_
  refine lv_aload_n hx hb d_LW_law_241 rfl (lv_at hl 2 rfl) ?_
  refine o_VF (rest := []) (st1 := [.int v2]) (As := []) (w1 := (m_cw ad2 ca2 ky ty rt2 Ni' Np No Nx Nf Na Nh Nq Nj M0 M1)) hE.1 C2 (e_MM_wrong hE hKy l Ni Np No Nx Nf Na Nh Nq Nj M0 M1 rt2 h2) hP2 (o_Dr (hDD f rt Sj T0 T1 Rd Pg Pt Mk Lk Ck Jd Ld Pr rt2 Ni Np No Nx Nf Na Nh Nq Nj M0 M1)) hS hl.1 rfl mw_0 k_9_29 k_9_30 k_9_31 k_1_12 k_9_32 hv_MM_wrong rfl rfl ⟨(Nat.le_of_ble_eq_true rfl), (Nat.le_of_ble_eq_true rfl)⟩ rfl (Nat.le_of_ble_eq_true rfl) ⟨by omega, by omega⟩ rfl d_LW_law_242 (fun H1 locs1 hQ2 hk hS1 => ?_)
  have hP1 := o_keep1 (hDD f rt Sj T0 T1 Rd Pg Pt Mk Lk Ck Jd Ld Pr rt2 Ni Np No Nx Nf Na Nh Nq Nj M0 M1) hP1 hk
  have hP2 := hQ2
  have hS := hS1
  refine lv_pop hx hb d_LW_law_245 rfl ?_
  refine lv_goto (tgt := 574) hx hb d_LW_law_246 (by decide) ?_
  exact kk _ _ _ hP1 hP2 hS (lv_sub hl [0, 1, 2, 3, 4] rfl)
set_option maxHeartbeats 4000000 in
set_option maxRecDepth 100000 in
theorem la_check_0 {E : (Nat → Prop) → State → Heap → Prop} {p : Program} {l : Launch} {e : Env} {s : State} {m : MethodId} {args : Array Value} {below : List Frame} {meth : Method} {c : Code} {D1 D2 : va_G} {ad ad2 kd sd vd xd : Nat → Nat} {ca ca2 : Nat → ClassId} {ky ty : Nat → Option Nat} {cO : ClassId} {o b L : Nat} {xs : Nat → Int32} {A : Nat → Prop} {Q : State → Prop} {H : Heap} {locs : List Loc} {cells slots : Nat} {ls : Array Slot} {i : Int32} (hE : o_EK E kd sd vd xd) (hKy : m_KY ky ty sd) (hT : o_ET E) (hfl : l.flags = pinnedFlags ++ [noTraceFlag]) (C1 : o_Cx E p s m args meth c D1 o_cls ((cO, .long) :: o_tys ca) "SchemaJudgeLaw" code (some .boolean) 7 (.tt) A) (C1a : o_Cx E p s m args meth c D1 o_cls (o_tys ca) "SchemaJudgeLaw" code (some .boolean) 7 (.tt) A) (C2 : o_Cx E p s m args meth c D2 m_cls (m_tys ca2) "SchemaJudgeLaw" code (some .boolean) 7 (.tt) A) (hX : va_X b L xs s s.heap) (hbl : b < s.heap.size) (hbA : ¬ A b) (hDD : ∀ (f : Nat → Int64) (rt : Nat) (Sj : SSJ) (T0 : STx) (T1 : STx) (Rd : SRd) (Pg : SPg) (Pt : SPt) (Mk : SMk) (Lk : SLk) (Ck : SCk) (Jd : SJd) (Ld : SLd) (Pr : SPr) (rt2 : Nat) (Ni : SNI) (Np : SNP) (No : SNO) (Nx : SNX) (Nf : SNF) (Na : SNA) (Nh : SNH) (Nq : SNQ) (Nj : SNJ) (M0 : SMT) (M1 : SMT), va_D A (((o, .inl (cO, 1, .inr (.inl f))) :: o_cw ad ca rt Sj T0 T1 Rd Pg Pt Mk Lk Ck Jd Ld Pr) ++ m_cw ad2 ca2 ky ty rt2 Ni Np No Nx Nf Na Nh Nq Nj M0 M1)) (hi1 : vp_in (i + (1:Int32)) L) (hi2 : vp_in (i + (2:Int32)) L) (hi3 : vp_in (i + (3:Int32)) L) (hi4 : vp_in (i + (4:Int32)) L) (hi5 : vp_in (i + (5:Int32)) L) (hcs : cells + 1 ≤ room_1.cells) (hss : slots + 6 ≤ room_1.slots) (n : Nat) (n2 : Nat) (Sj : SSJ) (T0 : STx) (T1 : STx) (Rd : SRd) (Pg : SPg) (Pt : SPt) (Mk : SMk) (Lk : SLk) (Ck : SCk) (Jd : SJd) (Ld : SLd) (Pr : SPr) (rt : Nat) (rt2 : Nat) (Ni : SNI) (Np : SNP) (No : SNO) (Nx : SNX) (Nf : SNF) (Na : SNA) (Nh : SNH) (Nq : SNQ) (Nj : SNJ) (M0 : SMT) (M1 : SMT) (f : Nat → Int64) (Pg' : SPg) (Pt' : SPt) (Mk' : SMk) (Lk' : SLk) (Ck' : SCk) (v : Int32) (v2 : Int32) (Ni' : SNI) (Np' : SNP) (No' : SNO) (Nf' : SNF) (Na' : SNA) (Nh' : SNH) (rt2' : Nat) (h : m_SJ_check n T0 Pg Pt Mk Lk Ck = some (0, v, Pg', Pt', Mk', Lk', Ck')) (h2 : m_MM_check n2 M0 Ni Np No Nf Na Nh rt2 = some (v2, Ni', Np', No', Nf', Na', Nh', rt2')) (hP1 : va_P D1 o_cls ((o, .inl (cO, 1, .inr (.inl f))) :: o_cw ad ca rt Sj T0 T1 Rd Pg Pt Mk Lk Ck Jd Ld Pr) H) (hP2 : va_P D2 m_cls (m_cw ad2 ca2 ky ty rt2 Ni Np No Nx Nf Na Nh Nq Nj M0 M1) H) (hS : va_S A s.heap H locs) (hl : lv_has ls 7 [(0, .ref b), (1, .ref (ad 0)), (2, .ref (ad2 0)), (3, .ref o), (4, .int i)]) (kk : ∀ (H : Heap) (locs : List Loc) (ls : Array Slot), va_P D1 o_cls ((o, .inl (cO, 1, .inr (.inl (vp_updL f 0 v.toInt64)))) :: o_cw ad ca rt Sj T0 T1 Rd Pg' Pt' Mk' Lk' Ck' Jd Ld Pr) H → va_P D2 m_cls (m_cw ad2 ca2 ky ty rt2' Ni' Np' No' Nx Nf' Na' Nh' Nq Nj M0 M1) H → va_S A s.heap H locs → lv_has ls 7 [(0, .ref b), (1, .ref (ad 0)), (2, .ref (ad2 0)), (3, .ref o), (4, .int i)] → W p l e room_1 s m args below meth c H locs (cells + 1) (slots + 6) Q (F0 m 574 ls [])) : W p l e room_1 s m args below meth c H locs cells slots Q (F0 m 249 ls []) := by
  have C0 := C1
  obtain ⟨hx, hb, -, -, -, hown, hts, hK1, -, -⟩ := C0
  refine lv_aload_n hx hb d_LW_law_249 rfl (lv_at hl 1 rfl) ?_
  refine lv_aload_n hx hb d_LW_law_250 rfl (lv_at hl 3 rfl) ?_
  refine o_SW (rest := []) (st1 := [.int (0:Int32)]) (As := [.ref (ad 0), .ref o]) hE.1 C1 (lh_check_0 hE hT l hfl n Sj T0 T1 Rd Pg Pt Mk Lk Ck Jd Ld Pr Pg' Pt' Mk' Lk' Ck' rt v f h) hK1 hP1 (o_Dl (hDD f rt Sj T0 T1 Rd Pg Pt Mk Lk Ck Jd Ld Pr rt2 Ni Np No Nx Nf Na Nh Nq Nj M0 M1)) hS hl.1 k_4_9 k_4_10 k_1_0 kw_LW_check hs_LW_check rfl rfl ⟨(Nat.le_of_ble_eq_true rfl), (Nat.le_of_ble_eq_true rfl)⟩ rfl (Nat.le_of_ble_eq_true rfl) ⟨hcs, hss⟩ rfl d_LW_law_251 (fun H1 locs1 hQ1 hk hS1 => ?_)
  have hP2 := o_keep2 (hDD f rt Sj T0 T1 Rd Pg Pt Mk Lk Ck Jd Ld Pr rt2 Ni Np No Nx Nf Na Nh Nq Nj M0 M1) hP2 hk
  have hP1 := hQ1
  have hS := hS1
  refine lv_istore (lv' := [(5, .int (0:Int32)), (0, .ref b), (1, .ref (ad 0)), (2, .ref (ad2 0)), (3, .ref o), (4, .int i)]) hx hb d_LW_law_254 hl (by decide) rfl (fun ls hl => ?_)
  refine lv_aload_n hx hb d_LW_law_256 rfl (lv_at hl 3 rfl) ?_
  refine o_VF (rest := []) (st1 := [.int v2]) (As := []) (w1 := (m_cw ad2 ca2 ky ty rt2' Ni' Np' No' Nx Nf' Na' Nh' Nq Nj M0 M1)) hE.1 C2 (e_MM_check hE hKy l n2 M0 Ni Np No Nf Na Nh rt2 Nx Nq Nj M1 h2) hP2 (o_Dr (hDD (vp_updL f 0 v.toInt64) rt Sj T0 T1 Rd Pg' Pt' Mk' Lk' Ck' Jd Ld Pr rt2 Ni Np No Nx Nf Na Nh Nq Nj M0 M1)) hS hl.1 rfl mw_0 k_9_33 k_9_34 k_9_35 k_1_12 k_9_36 hv_MM_check rfl rfl ⟨(Nat.le_of_ble_eq_true rfl), (Nat.le_of_ble_eq_true rfl)⟩ rfl (Nat.le_of_ble_eq_true rfl) ⟨by omega, by omega⟩ rfl d_LW_law_257 (fun H1 locs1 hQ2 hk hS1 => ?_)
  have hP1 := o_keep1 (hDD (vp_updL f 0 v.toInt64) rt Sj T0 T1 Rd Pg' Pt' Mk' Lk' Ck' Jd Ld Pr rt2 Ni Np No Nx Nf Na Nh Nq Nj M0 M1) hP1 hk
  have hP2 := hQ2
  have hS := hS1
  refine lv_istore (lv' := [(6, .int v2), (5, .int (0:Int32)), (0, .ref b), (1, .ref (ad 0)), (2, .ref (ad2 0)), (3, .ref o), (4, .int i)]) hx hb d_LW_law_260 hl (by decide) rfl (fun ls hl => ?_)
  refine lv_goto (tgt := 574) hx hb d_LW_law_262 (by decide) ?_
  exact kk _ _ _ hP1 hP2 hS (lv_sub hl [2, 3, 4, 5, 6] rfl)
set_option maxHeartbeats 4000000 in
set_option maxRecDepth 100000 in
theorem la_check_3 {E : (Nat → Prop) → State → Heap → Prop} {p : Program} {l : Launch} {e : Env} {s : State} {m : MethodId} {args : Array Value} {below : List Frame} {meth : Method} {c : Code} {D1 D2 : va_G} {ad ad2 kd sd vd xd : Nat → Nat} {ca ca2 : Nat → ClassId} {ky ty : Nat → Option Nat} {cO : ClassId} {o b L : Nat} {xs : Nat → Int32} {A : Nat → Prop} {Q : State → Prop} {H : Heap} {locs : List Loc} {cells slots : Nat} {ls : Array Slot} {i : Int32} (hE : o_EK E kd sd vd xd) (hKy : m_KY ky ty sd) (hT : o_ET E) (hfl : l.flags = pinnedFlags ++ [noTraceFlag]) (C1 : o_Cx E p s m args meth c D1 o_cls ((cO, .long) :: o_tys ca) "SchemaJudgeLaw" code (some .boolean) 7 (.tt) A) (C1a : o_Cx E p s m args meth c D1 o_cls (o_tys ca) "SchemaJudgeLaw" code (some .boolean) 7 (.tt) A) (C2 : o_Cx E p s m args meth c D2 m_cls (m_tys ca2) "SchemaJudgeLaw" code (some .boolean) 7 (.tt) A) (hX : va_X b L xs s s.heap) (hbl : b < s.heap.size) (hbA : ¬ A b) (hDD : ∀ (f : Nat → Int64) (rt : Nat) (Sj : SSJ) (T0 : STx) (T1 : STx) (Rd : SRd) (Pg : SPg) (Pt : SPt) (Mk : SMk) (Lk : SLk) (Ck : SCk) (Jd : SJd) (Ld : SLd) (Pr : SPr) (rt2 : Nat) (Ni : SNI) (Np : SNP) (No : SNO) (Nx : SNX) (Nf : SNF) (Na : SNA) (Nh : SNH) (Nq : SNQ) (Nj : SNJ) (M0 : SMT) (M1 : SMT), va_D A (((o, .inl (cO, 1, .inr (.inl f))) :: o_cw ad ca rt Sj T0 T1 Rd Pg Pt Mk Lk Ck Jd Ld Pr) ++ m_cw ad2 ca2 ky ty rt2 Ni Np No Nx Nf Na Nh Nq Nj M0 M1)) (hi1 : vp_in (i + (1:Int32)) L) (hi2 : vp_in (i + (2:Int32)) L) (hi3 : vp_in (i + (3:Int32)) L) (hi4 : vp_in (i + (4:Int32)) L) (hi5 : vp_in (i + (5:Int32)) L) (hcs : cells + 1 ≤ room_1.cells) (hss : slots + 6 ≤ room_1.slots) (n : Nat) (n2 : Nat) (Sj : SSJ) (T0 : STx) (T1 : STx) (Rd : SRd) (Pg : SPg) (Pt : SPt) (Mk : SMk) (Lk : SLk) (Ck : SCk) (Jd : SJd) (Ld : SLd) (Pr : SPr) (rt : Nat) (rt2 : Nat) (Ni : SNI) (Np : SNP) (No : SNO) (Nx : SNX) (Nf : SNF) (Na : SNA) (Nh : SNH) (Nq : SNQ) (Nj : SNJ) (M0 : SMT) (M1 : SMT) (f : Nat → Int64) (Pg' : SPg) (Pt' : SPt) (Mk' : SMk) (Lk' : SLk) (Ck' : SCk) (v : Int32) (v2 : Int32) (Ni' : SNI) (Np' : SNP) (No' : SNO) (Nf' : SNF) (Na' : SNA) (Nh' : SNH) (rt2' : Nat) (h : m_SJ_check n T0 Pg Pt Mk Lk Ck = some (3, v, Pg', Pt', Mk', Lk', Ck')) (h2 : m_MM_check n2 M0 Ni Np No Nf Na Nh rt2 = some (v2, Ni', Np', No', Nf', Na', Nh', rt2')) (hP1 : va_P D1 o_cls ((o, .inl (cO, 1, .inr (.inl f))) :: o_cw ad ca rt Sj T0 T1 Rd Pg Pt Mk Lk Ck Jd Ld Pr) H) (hP2 : va_P D2 m_cls (m_cw ad2 ca2 ky ty rt2 Ni Np No Nx Nf Na Nh Nq Nj M0 M1) H) (hS : va_S A s.heap H locs) (hl : lv_has ls 7 [(0, .ref b), (1, .ref (ad 0)), (2, .ref (ad2 0)), (3, .ref o), (4, .int i)]) (kk : ∀ (H : Heap) (locs : List Loc) (ls : Array Slot), va_P D1 o_cls ((o, .inl (cO, 1, .inr (.inl f))) :: o_cw ad ca rt Sj T0 T1 Rd Pg' Pt' Mk' Lk' Ck' Jd Ld Pr) H → va_P D2 m_cls (m_cw ad2 ca2 ky ty rt2' Ni' Np' No' Nx Nf' Na' Nh' Nq Nj M0 M1) H → va_S A s.heap H locs → lv_has ls 7 [(0, .ref b), (1, .ref (ad 0)), (2, .ref (ad2 0)), (3, .ref o), (4, .int i)] → W p l e room_1 s m args below meth c H locs (cells + 1) (slots + 6) Q (F0 m 574 ls [])) : W p l e room_1 s m args below meth c H locs cells slots Q (F0 m 249 ls []) := by
  have C0 := C1
  obtain ⟨hx, hb, -, -, -, hown, hts, hK1, -, -⟩ := C0
  refine lv_aload_n hx hb d_LW_law_249 rfl (lv_at hl 1 rfl) ?_
  refine lv_aload_n hx hb d_LW_law_250 rfl (lv_at hl 3 rfl) ?_
  refine o_SW (rest := []) (st1 := [.int (1:Int32)]) (As := [.ref (ad 0), .ref o]) hE.1 C1 (lh_check_3 hE hT l hfl n Sj T0 T1 Rd Pg Pt Mk Lk Ck Jd Ld Pr Pg' Pt' Mk' Lk' Ck' rt v f h) hK1 hP1 (o_Dl (hDD f rt Sj T0 T1 Rd Pg Pt Mk Lk Ck Jd Ld Pr rt2 Ni Np No Nx Nf Na Nh Nq Nj M0 M1)) hS hl.1 k_4_9 k_4_10 k_1_0 kw_LW_check hs_LW_check rfl rfl ⟨(Nat.le_of_ble_eq_true rfl), (Nat.le_of_ble_eq_true rfl)⟩ rfl (Nat.le_of_ble_eq_true rfl) ⟨hcs, hss⟩ rfl d_LW_law_251 (fun H1 locs1 hQ1 hk hS1 => ?_)
  have hP2 := o_keep2 (hDD f rt Sj T0 T1 Rd Pg Pt Mk Lk Ck Jd Ld Pr rt2 Ni Np No Nx Nf Na Nh Nq Nj M0 M1) hP2 hk
  have hP1 := hQ1
  have hS := hS1
  refine lv_istore (lv' := [(5, .int (1:Int32)), (0, .ref b), (1, .ref (ad 0)), (2, .ref (ad2 0)), (3, .ref o), (4, .int i)]) hx hb d_LW_law_254 hl (by decide) rfl (fun ls hl => ?_)
  refine lv_aload_n hx hb d_LW_law_256 rfl (lv_at hl 3 rfl) ?_
  refine o_VF (rest := []) (st1 := [.int v2]) (As := []) (w1 := (m_cw ad2 ca2 ky ty rt2' Ni' Np' No' Nx Nf' Na' Nh' Nq Nj M0 M1)) hE.1 C2 (e_MM_check hE hKy l n2 M0 Ni Np No Nf Na Nh rt2 Nx Nq Nj M1 h2) hP2 (o_Dr (hDD f rt Sj T0 T1 Rd Pg' Pt' Mk' Lk' Ck' Jd Ld Pr rt2 Ni Np No Nx Nf Na Nh Nq Nj M0 M1)) hS hl.1 rfl mw_0 k_9_33 k_9_34 k_9_35 k_1_12 k_9_36 hv_MM_check rfl rfl ⟨(Nat.le_of_ble_eq_true rfl), (Nat.le_of_ble_eq_true rfl)⟩ rfl (Nat.le_of_ble_eq_true rfl) ⟨by omega, by omega⟩ rfl d_LW_law_257 (fun H1 locs1 hQ2 hk hS1 => ?_)
  have hP1 := o_keep1 (hDD f rt Sj T0 T1 Rd Pg' Pt' Mk' Lk' Ck' Jd Ld Pr rt2 Ni Np No Nx Nf Na Nh Nq Nj M0 M1) hP1 hk
  have hP2 := hQ2
  have hS := hS1
  refine lv_istore (lv' := [(6, .int v2), (5, .int (1:Int32)), (0, .ref b), (1, .ref (ad 0)), (2, .ref (ad2 0)), (3, .ref o), (4, .int i)]) hx hb d_LW_law_260 hl (by decide) rfl (fun ls hl => ?_)
  refine lv_goto (tgt := 574) hx hb d_LW_law_262 (by decide) ?_
  exact kk _ _ _ hP1 hP2 hS (lv_sub hl [2, 3, 4, 5, 6] rfl)
set_option maxHeartbeats 4000000 in
set_option maxRecDepth 100000 in
theorem la_fault {E : (Nat → Prop) → State → Heap → Prop} {p : Program} {l : Launch} {e : Env} {s : State} {m : MethodId} {args : Array Value} {below : List Frame} {meth : Method} {c : Code} {D1 D2 : va_G} {ad ad2 kd sd vd xd : Nat → Nat} {ca ca2 : Nat → ClassId} {ky ty : Nat → Option Nat} {cO : ClassId} {o b L : Nat} {xs : Nat → Int32} {A : Nat → Prop} {Q : State → Prop} {H : Heap} {locs : List Loc} {cells slots : Nat} {ls : Array Slot} {i : Int32} (hE : o_EK E kd sd vd xd) (hKy : m_KY ky ty sd) (hT : o_ET E) (hfl : l.flags = pinnedFlags ++ [noTraceFlag]) (C1 : o_Cx E p s m args meth c D1 o_cls ((cO, .long) :: o_tys ca) "SchemaJudgeLaw" code (some .boolean) 7 (.tt) A) (C1a : o_Cx E p s m args meth c D1 o_cls (o_tys ca) "SchemaJudgeLaw" code (some .boolean) 7 (.tt) A) (C2 : o_Cx E p s m args meth c D2 m_cls (m_tys ca2) "SchemaJudgeLaw" code (some .boolean) 7 (.tt) A) (hX : va_X b L xs s s.heap) (hbl : b < s.heap.size) (hbA : ¬ A b) (hDD : ∀ (f : Nat → Int64) (rt : Nat) (Sj : SSJ) (T0 : STx) (T1 : STx) (Rd : SRd) (Pg : SPg) (Pt : SPt) (Mk : SMk) (Lk : SLk) (Ck : SCk) (Jd : SJd) (Ld : SLd) (Pr : SPr) (rt2 : Nat) (Ni : SNI) (Np : SNP) (No : SNO) (Nx : SNX) (Nf : SNF) (Na : SNA) (Nh : SNH) (Nq : SNQ) (Nj : SNJ) (M0 : SMT) (M1 : SMT), va_D A (((o, .inl (cO, 1, .inr (.inl f))) :: o_cw ad ca rt Sj T0 T1 Rd Pg Pt Mk Lk Ck Jd Ld Pr) ++ m_cw ad2 ca2 ky ty rt2 Ni Np No Nx Nf Na Nh Nq Nj M0 M1)) (hi1 : vp_in (i + (1:Int32)) L) (hi2 : vp_in (i + (2:Int32)) L) (hi3 : vp_in (i + (3:Int32)) L) (hi4 : vp_in (i + (4:Int32)) L) (hi5 : vp_in (i + (5:Int32)) L) (hcs : cells + 1 ≤ room_1.cells) (hss : slots + 6 ≤ room_1.slots) (Sj : SSJ) (T0 : STx) (T1 : STx) (Rd : SRd) (Pg : SPg) (Pt : SPt) (Mk : SMk) (Lk : SLk) (Ck : SCk) (Jd : SJd) (Ld : SLd) (Pr : SPr) (rt : Nat) (rt2 : Nat) (Ni : SNI) (Np : SNP) (No : SNO) (Nx : SNX) (Nf : SNF) (Na : SNA) (Nh : SNH) (Nq : SNQ) (Nj : SNJ) (M0 : SMT) (M1 : SMT) (f : Nat → Int64) (v : Int32) (v2 : Int32) (Ni' : SNI) (h : m_SJ_fault Ck = some v) (h2 : m_MM_fault_1 Ni Nf = some (v2, Ni')) (hP1 : va_P D1 o_cls ((o, .inl (cO, 1, .inr (.inl f))) :: o_cw ad ca rt Sj T0 T1 Rd Pg Pt Mk Lk Ck Jd Ld Pr) H) (hP2 : va_P D2 m_cls (m_cw ad2 ca2 ky ty rt2 Ni Np No Nx Nf Na Nh Nq Nj M0 M1) H) (hS : va_S A s.heap H locs) (hl : lv_has ls 7 [(0, .ref b), (1, .ref (ad 0)), (2, .ref (ad2 0)), (3, .ref o), (4, .int i)]) (kk : ∀ (H : Heap) (locs : List Loc) (ls : Array Slot), va_P D1 o_cls ((o, .inl (cO, 1, .inr (.inl f))) :: o_cw ad ca rt Sj T0 T1 Rd Pg Pt Mk Lk Ck Jd Ld Pr) H → va_P D2 m_cls (m_cw ad2 ca2 ky ty rt2 Ni' Np No Nx Nf Na Nh Nq Nj M0 M1) H → va_S A s.heap H locs → lv_has ls 7 [(0, .ref b), (1, .ref (ad 0)), (2, .ref (ad2 0)), (3, .ref o), (4, .int i)] → W p l e room_1 s m args below meth c H locs cells slots Q (F0 m 574 ls [])) : W p l e room_1 s m args below meth c H locs cells slots Q (F0 m 265 ls []) := by
  have C0 := C1
  obtain ⟨hx, hb, -, -, -, hown, hts, hK1, -, -⟩ := C0
  refine lv_aload_n hx hb d_LW_law_265 rfl (lv_at hl 1 rfl) ?_
  refine o_VF (rest := []) (st1 := [.int v]) (As := []) (w1 := (o_cw ad ca rt Sj T0 T1 Rd Pg Pt Mk Lk Ck Jd Ld Pr)) hE.1 C1a (c_SJ_fault hE l Ck Sj T0 T1 Rd Pg Pt Mk Lk Jd Ld Pr rt h) (show va_P D1 o_cls (o_cw ad ca rt Sj T0 T1 Rd Pg Pt Mk Lk Ck Jd Ld Pr) _ from hP1.sub [1, 2, 3, 4, 5, 6, 7, 8, 9, 10, 11, 12, 13, 14, 15, 16, 17, 18, 19, 20, 21, 22, 23, 24, 25, 26, 27, 28, 29, 30, 31, 32, 33, 34, 35, 36, 37, 38, 39, 40, 41, 42, 43, 44, 45, 46, 47, 48, 49, 50, 51, 52, 53, 54, 55, 56, 57] rfl) ((o_Dl (hDD f rt Sj T0 T1 Rd Pg Pt Mk Lk Ck Jd Ld Pr rt2 Ni Np No Nx Nf Na Nh Nq Nj M0 M1)).sub [1, 2, 3, 4, 5, 6, 7, 8, 9, 10, 11, 12, 13, 14, 15, 16, 17, 18, 19, 20, 21, 22, 23, 24, 25, 26, 27, 28, 29, 30, 31, 32, 33, 34, 35, 36, 37, 38, 39, 40, 41, 42, 43, 44, 45, 46, 47, 48, 49, 50, 51, 52, 53, 54, 55, 56, 57] rfl rfl) hS hl.1 rfl cw_0 k_2_140 k_2_141 k_2_142 k_1_1 k_2_143 hv_SJ_fault rfl rfl ⟨(Nat.le_of_ble_eq_true rfl), (Nat.le_of_ble_eq_true rfl)⟩ rfl (Nat.le_of_ble_eq_true rfl) ⟨by omega, by omega⟩ rfl d_LW_law_266 (fun H1 locs1 hQ1 hk hS1 => ?_)
  have hP2 := o_keep2 (w1 := (o_cw ad ca rt Sj T0 T1 Rd Pg Pt Mk Lk Ck Jd Ld Pr)) (o_Dl2 (hDD f rt Sj T0 T1 Rd Pg Pt Mk Lk Ck Jd Ld Pr rt2 Ni Np No Nx Nf Na Nh Nq Nj M0 M1)) hP2 hk
  have hP1 : va_P D1 o_cls ((o, .inl (cO, 1, .inr (.inl f))) :: o_cw ad ca rt Sj T0 T1 Rd Pg Pt Mk Lk Ck Jd Ld Pr) H1 := (va_join (wr := [(o, .inl (cO, 1, .inr (.inl f)))]) hP1 (o_Dl (hDD f rt Sj T0 T1 Rd Pg Pt Mk Lk Ck Jd Ld Pr rt2 Ni Np No Nx Nf Na Nh Nq Nj M0 M1)) [1, 2, 3, 4, 5, 6, 7, 8, 9, 10, 11, 12, 13, 14, 15, 16, 17, 18, 19, 20, 21, 22, 23, 24, 25, 26, 27, 28, 29, 30, 31, 32, 33, 34, 35, 36, 37, 38, 39, 40, 41, 42, 43, 44, 45, 46, 47, 48, 49, 50, 51, 52, 53, 54, 55, 56, 57] [0] rfl rfl rfl (by decide) hk (va_free (o_Dl (hDD f rt Sj T0 T1 Rd Pg Pt Mk Lk Ck Jd Ld Pr rt2 Ni Np No Nx Nf Na Nh Nq Nj M0 M1)) hS C1.2.2.2.2.2.2.2.2.1 [1, 2, 3, 4, 5, 6, 7, 8, 9, 10, 11, 12, 13, 14, 15, 16, 17, 18, 19, 20, 21, 22, 23, 24, 25, 26, 27, 28, 29, 30, 31, 32, 33, 34, 35, 36, 37, 38, 39, 40, 41, 42, 43, 44, 45, 46, 47, 48, 49, 50, 51, 52, 53, 54, 55, 56, 57] rfl) hQ1 (o_D_map ((o_Dl (hDD f rt Sj T0 T1 Rd Pg Pt Mk Lk Ck Jd Ld Pr rt2 Ni Np No Nx Nf Na Nh Nq Nj M0 M1)).sub [1, 2, 3, 4, 5, 6, 7, 8, 9, 10, 11, 12, 13, 14, 15, 16, 17, 18, 19, 20, 21, 22, 23, 24, 25, 26, 27, 28, 29, 30, 31, 32, 33, 34, 35, 36, 37, 38, 39, 40, 41, 42, 43, 44, 45, 46, 47, 48, 49, 50, 51, 52, 53, 54, 55, 56, 57] rfl rfl).self rfl)).1
  have hS := hS1
  refine lv_pop hx hb d_LW_law_269 rfl ?_
  refine lv_aload_n hx hb d_LW_law_270 rfl (lv_at hl 2 rfl) ?_
  refine o_VF (rest := []) (st1 := [.int v2]) (As := []) (w1 := (m_cw ad2 ca2 ky ty rt2 Ni' Np No Nx Nf Na Nh Nq Nj M0 M1)) hE.1 C2 (e_MM_fault_1 hE hKy l Ni Nf Np No Nx Na Nh Nq Nj M0 M1 rt2 h2) hP2 (o_Dr (hDD f rt Sj T0 T1 Rd Pg Pt Mk Lk Ck Jd Ld Pr rt2 Ni Np No Nx Nf Na Nh Nq Nj M0 M1)) hS hl.1 rfl mw_0 k_9_202 k_9_203 k_9_204 k_1_12 k_9_205 hv_MM_fault_1 rfl rfl ⟨(Nat.le_of_ble_eq_true rfl), (Nat.le_of_ble_eq_true rfl)⟩ rfl (Nat.le_of_ble_eq_true rfl) ⟨by omega, by omega⟩ rfl d_LW_law_271 (fun H1 locs1 hQ2 hk hS1 => ?_)
  have hP1 := o_keep1 (hDD f rt Sj T0 T1 Rd Pg Pt Mk Lk Ck Jd Ld Pr rt2 Ni Np No Nx Nf Na Nh Nq Nj M0 M1) hP1 hk
  have hP2 := hQ2
  have hS := hS1
  refine lv_pop hx hb d_LW_law_274 rfl ?_
  refine lv_goto (tgt := 574) hx hb d_LW_law_275 (by decide) ?_
  exact kk _ _ _ hP1 hP2 hS (lv_sub hl [0, 1, 2, 3, 4] rfl)
set_option maxHeartbeats 4000000 in
set_option maxRecDepth 100000 in
theorem la_validate_0 {E : (Nat → Prop) → State → Heap → Prop} {p : Program} {l : Launch} {e : Env} {s : State} {m : MethodId} {args : Array Value} {below : List Frame} {meth : Method} {c : Code} {D1 D2 : va_G} {ad ad2 kd sd vd xd : Nat → Nat} {ca ca2 : Nat → ClassId} {ky ty : Nat → Option Nat} {cO : ClassId} {o b L : Nat} {xs : Nat → Int32} {A : Nat → Prop} {Q : State → Prop} {H : Heap} {locs : List Loc} {cells slots : Nat} {ls : Array Slot} {i : Int32} (hE : o_EK E kd sd vd xd) (hKy : m_KY ky ty sd) (hT : o_ET E) (hfl : l.flags = pinnedFlags ++ [noTraceFlag]) (C1 : o_Cx E p s m args meth c D1 o_cls ((cO, .long) :: o_tys ca) "SchemaJudgeLaw" code (some .boolean) 7 (.tt) A) (C1a : o_Cx E p s m args meth c D1 o_cls (o_tys ca) "SchemaJudgeLaw" code (some .boolean) 7 (.tt) A) (C2 : o_Cx E p s m args meth c D2 m_cls (m_tys ca2) "SchemaJudgeLaw" code (some .boolean) 7 (.tt) A) (hX : va_X b L xs s s.heap) (hbl : b < s.heap.size) (hbA : ¬ A b) (hDD : ∀ (f : Nat → Int64) (rt : Nat) (Sj : SSJ) (T0 : STx) (T1 : STx) (Rd : SRd) (Pg : SPg) (Pt : SPt) (Mk : SMk) (Lk : SLk) (Ck : SCk) (Jd : SJd) (Ld : SLd) (Pr : SPr) (rt2 : Nat) (Ni : SNI) (Np : SNP) (No : SNO) (Nx : SNX) (Nf : SNF) (Na : SNA) (Nh : SNH) (Nq : SNQ) (Nj : SNJ) (M0 : SMT) (M1 : SMT), va_D A (((o, .inl (cO, 1, .inr (.inl f))) :: o_cw ad ca rt Sj T0 T1 Rd Pg Pt Mk Lk Ck Jd Ld Pr) ++ m_cw ad2 ca2 ky ty rt2 Ni Np No Nx Nf Na Nh Nq Nj M0 M1)) (hi1 : vp_in (i + (1:Int32)) L) (hi2 : vp_in (i + (2:Int32)) L) (hi3 : vp_in (i + (3:Int32)) L) (hi4 : vp_in (i + (4:Int32)) L) (hi5 : vp_in (i + (5:Int32)) L) (hcs : cells + 1 ≤ room_1.cells) (hss : slots + 6 ≤ room_1.slots) (n : Nat) (n2 : Nat) (Sj : SSJ) (T0 : STx) (T1 : STx) (Rd : SRd) (Pg : SPg) (Pt : SPt) (Mk : SMk) (Lk : SLk) (Ck : SCk) (Jd : SJd) (Ld : SLd) (Pr : SPr) (rt : Nat) (rt2 : Nat) (Ni : SNI) (Np : SNP) (No : SNO) (Nx : SNX) (Nf : SNF) (Na : SNA) (Nh : SNH) (Nq : SNQ) (Nj : SNJ) (M0 : SMT) (M1 : SMT) (f : Nat → Int64) (Pg' : SPg) (Pt' : SPt) (Ld' : SLd) (Pr' : SPr) (Jd' : SJd) (v : Int32) (v2 : Int32) (M1' : SMT) (Ni' : SNI) (Np' : SNP) (No' : SNO) (Nx' : SNX) (Nq' : SNQ) (Nj' : SNJ) (rt2' : Nat) (h : m_SJ_validate n T0 T1 Pg Pt Mk Ck Ld Pr Jd = some (0, v, Pg', Pt', Ld', Pr', Jd')) (h2 : m_MM_validate n2 M0 M1 Ni Np No Nx Nf Na Nq Nj rt2 = some (v2, M1', Ni', Np', No', Nx', Nq', Nj', rt2')) (hP1 : va_P D1 o_cls ((o, .inl (cO, 1, .inr (.inl f))) :: o_cw ad ca rt Sj T0 T1 Rd Pg Pt Mk Lk Ck Jd Ld Pr) H) (hP2 : va_P D2 m_cls (m_cw ad2 ca2 ky ty rt2 Ni Np No Nx Nf Na Nh Nq Nj M0 M1) H) (hS : va_S A s.heap H locs) (hl : lv_has ls 7 [(0, .ref b), (1, .ref (ad 0)), (2, .ref (ad2 0)), (3, .ref o), (4, .int i)]) (kk : ∀ (H : Heap) (locs : List Loc) (ls : Array Slot), va_P D1 o_cls ((o, .inl (cO, 1, .inr (.inl (vp_updL f 0 (if v = 0 then 0 else 1))))) :: o_cw ad ca rt Sj T0 T1 Rd Pg' Pt' Mk Lk Ck Jd' Ld' Pr') H → va_P D2 m_cls (m_cw ad2 ca2 ky ty rt2' Ni' Np' No' Nx' Nf Na Nh Nq' Nj' M0 M1') H → va_S A s.heap H locs → lv_has ls 7 [(0, .ref b), (1, .ref (ad 0)), (2, .ref (ad2 0)), (3, .ref o), (4, .int i)] → W p l e room_1 s m args below meth c H locs (cells + 1) (slots + 6) Q (F0 m 574 ls [])) : W p l e room_1 s m args below meth c H locs cells slots Q (F0 m 278 ls []) := by
  have C0 := C1
  obtain ⟨hx, hb, -, -, -, hown, hts, hK1, -, -⟩ := C0
  refine lv_aload_n hx hb d_LW_law_278 rfl (lv_at hl 1 rfl) ?_
  refine lv_aload_n hx hb d_LW_law_279 rfl (lv_at hl 3 rfl) ?_
  refine o_SW (rest := []) (st1 := [.int (0:Int32)]) (As := [.ref (ad 0), .ref o]) hE.1 C1 (lh_validate_0 hE hT l hfl n Sj T0 T1 Rd Pg Pt Mk Lk Ck Jd Ld Pr Pg' Pt' Ld' Pr' Jd' rt v f h) hK1 hP1 (o_Dl (hDD f rt Sj T0 T1 Rd Pg Pt Mk Lk Ck Jd Ld Pr rt2 Ni Np No Nx Nf Na Nh Nq Nj M0 M1)) hS hl.1 k_5_226 k_5_227 k_1_0 kw_LW_validate hs_LW_validate rfl rfl ⟨(Nat.le_of_ble_eq_true rfl), (Nat.le_of_ble_eq_true rfl)⟩ rfl (Nat.le_of_ble_eq_true rfl) ⟨hcs, hss⟩ rfl d_LW_law_280 (fun H1 locs1 hQ1 hk hS1 => ?_)
  have hP2 := o_keep2 (hDD f rt Sj T0 T1 Rd Pg Pt Mk Lk Ck Jd Ld Pr rt2 Ni Np No Nx Nf Na Nh Nq Nj M0 M1) hP2 hk
  have hP1 := hQ1
  have hS := hS1
  refine lv_istore (lv' := [(5, .int (0:Int32)), (0, .ref b), (1, .ref (ad 0)), (2, .ref (ad2 0)), (3, .ref o), (4, .int i)]) hx hb d_LW_law_283 hl (by decide) rfl (fun ls hl => ?_)
  refine lv_aload_n hx hb d_LW_law_285 rfl (lv_at hl 3 rfl) ?_
  refine o_VF (rest := []) (st1 := [.int v2]) (As := []) (w1 := (m_cw ad2 ca2 ky ty rt2' Ni' Np' No' Nx' Nf Na Nh Nq' Nj' M0 M1')) hE.1 C2 (e_MM_validate hE hKy l n2 M0 M1 Ni Np No Nx Nf Na Nq Nj rt2 Nh h2) hP2 (o_Dr (hDD (vp_updL f 0 (if v = 0 then 0 else 1)) rt Sj T0 T1 Rd Pg' Pt' Mk Lk Ck Jd' Ld' Pr' rt2 Ni Np No Nx Nf Na Nh Nq Nj M0 M1)) hS hl.1 rfl mw_0 k_9_206 k_9_207 k_9_208 k_1_12 k_9_209 hv_MM_validate rfl rfl ⟨(Nat.le_of_ble_eq_true rfl), (Nat.le_of_ble_eq_true rfl)⟩ rfl (Nat.le_of_ble_eq_true rfl) ⟨by omega, by omega⟩ rfl d_LW_law_286 (fun H1 locs1 hQ2 hk hS1 => ?_)
  have hP1 := o_keep1 (hDD (vp_updL f 0 (if v = 0 then 0 else 1)) rt Sj T0 T1 Rd Pg' Pt' Mk Lk Ck Jd' Ld' Pr' rt2 Ni Np No Nx Nf Na Nh Nq Nj M0 M1) hP1 hk
  have hP2 := hQ2
  have hS := hS1
  refine lv_istore (lv' := [(6, .int v2), (5, .int (0:Int32)), (0, .ref b), (1, .ref (ad 0)), (2, .ref (ad2 0)), (3, .ref o), (4, .int i)]) hx hb d_LW_law_289 hl (by decide) rfl (fun ls hl => ?_)
  refine lv_goto (tgt := 574) hx hb d_LW_law_291 (by decide) ?_
  exact kk _ _ _ hP1 hP2 hS (lv_sub hl [2, 3, 4, 5, 6] rfl)
set_option maxHeartbeats 4000000 in
set_option maxRecDepth 100000 in
theorem la_validate_3 {E : (Nat → Prop) → State → Heap → Prop} {p : Program} {l : Launch} {e : Env} {s : State} {m : MethodId} {args : Array Value} {below : List Frame} {meth : Method} {c : Code} {D1 D2 : va_G} {ad ad2 kd sd vd xd : Nat → Nat} {ca ca2 : Nat → ClassId} {ky ty : Nat → Option Nat} {cO : ClassId} {o b L : Nat} {xs : Nat → Int32} {A : Nat → Prop} {Q : State → Prop} {H : Heap} {locs : List Loc} {cells slots : Nat} {ls : Array Slot} {i : Int32} (hE : o_EK E kd sd vd xd) (hKy : m_KY ky ty sd) (hT : o_ET E) (hfl : l.flags = pinnedFlags ++ [noTraceFlag]) (C1 : o_Cx E p s m args meth c D1 o_cls ((cO, .long) :: o_tys ca) "SchemaJudgeLaw" code (some .boolean) 7 (.tt) A) (C1a : o_Cx E p s m args meth c D1 o_cls (o_tys ca) "SchemaJudgeLaw" code (some .boolean) 7 (.tt) A) (C2 : o_Cx E p s m args meth c D2 m_cls (m_tys ca2) "SchemaJudgeLaw" code (some .boolean) 7 (.tt) A) (hX : va_X b L xs s s.heap) (hbl : b < s.heap.size) (hbA : ¬ A b) (hDD : ∀ (f : Nat → Int64) (rt : Nat) (Sj : SSJ) (T0 : STx) (T1 : STx) (Rd : SRd) (Pg : SPg) (Pt : SPt) (Mk : SMk) (Lk : SLk) (Ck : SCk) (Jd : SJd) (Ld : SLd) (Pr : SPr) (rt2 : Nat) (Ni : SNI) (Np : SNP) (No : SNO) (Nx : SNX) (Nf : SNF) (Na : SNA) (Nh : SNH) (Nq : SNQ) (Nj : SNJ) (M0 : SMT) (M1 : SMT), va_D A (((o, .inl (cO, 1, .inr (.inl f))) :: o_cw ad ca rt Sj T0 T1 Rd Pg Pt Mk Lk Ck Jd Ld Pr) ++ m_cw ad2 ca2 ky ty rt2 Ni Np No Nx Nf Na Nh Nq Nj M0 M1)) (hi1 : vp_in (i + (1:Int32)) L) (hi2 : vp_in (i + (2:Int32)) L) (hi3 : vp_in (i + (3:Int32)) L) (hi4 : vp_in (i + (4:Int32)) L) (hi5 : vp_in (i + (5:Int32)) L) (hcs : cells + 1 ≤ room_1.cells) (hss : slots + 6 ≤ room_1.slots) (n : Nat) (n2 : Nat) (Sj : SSJ) (T0 : STx) (T1 : STx) (Rd : SRd) (Pg : SPg) (Pt : SPt) (Mk : SMk) (Lk : SLk) (Ck : SCk) (Jd : SJd) (Ld : SLd) (Pr : SPr) (rt : Nat) (rt2 : Nat) (Ni : SNI) (Np : SNP) (No : SNO) (Nx : SNX) (Nf : SNF) (Na : SNA) (Nh : SNH) (Nq : SNQ) (Nj : SNJ) (M0 : SMT) (M1 : SMT) (f : Nat → Int64) (Pg' : SPg) (Pt' : SPt) (Ld' : SLd) (Pr' : SPr) (Jd' : SJd) (v : Int32) (v2 : Int32) (M1' : SMT) (Ni' : SNI) (Np' : SNP) (No' : SNO) (Nx' : SNX) (Nq' : SNQ) (Nj' : SNJ) (rt2' : Nat) (h : m_SJ_validate n T0 T1 Pg Pt Mk Ck Ld Pr Jd = some (3, v, Pg', Pt', Ld', Pr', Jd')) (h2 : m_MM_validate n2 M0 M1 Ni Np No Nx Nf Na Nq Nj rt2 = some (v2, M1', Ni', Np', No', Nx', Nq', Nj', rt2')) (hP1 : va_P D1 o_cls ((o, .inl (cO, 1, .inr (.inl f))) :: o_cw ad ca rt Sj T0 T1 Rd Pg Pt Mk Lk Ck Jd Ld Pr) H) (hP2 : va_P D2 m_cls (m_cw ad2 ca2 ky ty rt2 Ni Np No Nx Nf Na Nh Nq Nj M0 M1) H) (hS : va_S A s.heap H locs) (hl : lv_has ls 7 [(0, .ref b), (1, .ref (ad 0)), (2, .ref (ad2 0)), (3, .ref o), (4, .int i)]) (kk : ∀ (H : Heap) (locs : List Loc) (ls : Array Slot), va_P D1 o_cls ((o, .inl (cO, 1, .inr (.inl f))) :: o_cw ad ca rt Sj T0 T1 Rd Pg' Pt' Mk Lk Ck Jd' Ld' Pr') H → va_P D2 m_cls (m_cw ad2 ca2 ky ty rt2' Ni' Np' No' Nx' Nf Na Nh Nq' Nj' M0 M1') H → va_S A s.heap H locs → lv_has ls 7 [(0, .ref b), (1, .ref (ad 0)), (2, .ref (ad2 0)), (3, .ref o), (4, .int i)] → W p l e room_1 s m args below meth c H locs (cells + 1) (slots + 6) Q (F0 m 574 ls [])) : W p l e room_1 s m args below meth c H locs cells slots Q (F0 m 278 ls []) := by
  have C0 := C1
  obtain ⟨hx, hb, -, -, -, hown, hts, hK1, -, -⟩ := C0
  refine lv_aload_n hx hb d_LW_law_278 rfl (lv_at hl 1 rfl) ?_
  refine lv_aload_n hx hb d_LW_law_279 rfl (lv_at hl 3 rfl) ?_
  refine o_SW (rest := []) (st1 := [.int (1:Int32)]) (As := [.ref (ad 0), .ref o]) hE.1 C1 (lh_validate_3 hE hT l hfl n Sj T0 T1 Rd Pg Pt Mk Lk Ck Jd Ld Pr Pg' Pt' Ld' Pr' Jd' rt v f h) hK1 hP1 (o_Dl (hDD f rt Sj T0 T1 Rd Pg Pt Mk Lk Ck Jd Ld Pr rt2 Ni Np No Nx Nf Na Nh Nq Nj M0 M1)) hS hl.1 k_5_226 k_5_227 k_1_0 kw_LW_validate hs_LW_validate rfl rfl ⟨(Nat.le_of_ble_eq_true rfl), (Nat.le_of_ble_eq_true rfl)⟩ rfl (Nat.le_of_ble_eq_true rfl) ⟨hcs, hss⟩ rfl d_LW_law_280 (fun H1 locs1 hQ1 hk hS1 => ?_)
  have hP2 := o_keep2 (hDD f rt Sj T0 T1 Rd Pg Pt Mk Lk Ck Jd Ld Pr rt2 Ni Np No Nx Nf Na Nh Nq Nj M0 M1) hP2 hk
  have hP1 := hQ1
  have hS := hS1
  refine lv_istore (lv' := [(5, .int (1:Int32)), (0, .ref b), (1, .ref (ad 0)), (2, .ref (ad2 0)), (3, .ref o), (4, .int i)]) hx hb d_LW_law_283 hl (by decide) rfl (fun ls hl => ?_)
  refine lv_aload_n hx hb d_LW_law_285 rfl (lv_at hl 3 rfl) ?_
  refine o_VF (rest := []) (st1 := [.int v2]) (As := []) (w1 := (m_cw ad2 ca2 ky ty rt2' Ni' Np' No' Nx' Nf Na Nh Nq' Nj' M0 M1')) hE.1 C2 (e_MM_validate hE hKy l n2 M0 M1 Ni Np No Nx Nf Na Nq Nj rt2 Nh h2) hP2 (o_Dr (hDD f rt Sj T0 T1 Rd Pg' Pt' Mk Lk Ck Jd' Ld' Pr' rt2 Ni Np No Nx Nf Na Nh Nq Nj M0 M1)) hS hl.1 rfl mw_0 k_9_206 k_9_207 k_9_208 k_1_12 k_9_209 hv_MM_validate rfl rfl ⟨(Nat.le_of_ble_eq_true rfl), (Nat.le_of_ble_eq_true rfl)⟩ rfl (Nat.le_of_ble_eq_true rfl) ⟨by omega, by omega⟩ rfl d_LW_law_286 (fun H1 locs1 hQ2 hk hS1 => ?_)
  have hP1 := o_keep1 (hDD f rt Sj T0 T1 Rd Pg' Pt' Mk Lk Ck Jd' Ld' Pr' rt2 Ni Np No Nx Nf Na Nh Nq Nj M0 M1) hP1 hk
  have hP2 := hQ2
  have hS := hS1
  refine lv_istore (lv' := [(6, .int v2), (5, .int (1:Int32)), (0, .ref b), (1, .ref (ad 0)), (2, .ref (ad2 0)), (3, .ref o), (4, .int i)]) hx hb d_LW_law_289 hl (by decide) rfl (fun ls hl => ?_)
  refine lv_goto (tgt := 574) hx hb d_LW_law_291 (by decide) ?_
  exact kk _ _ _ hP1 hP2 hS (lv_sub hl [2, 3, 4, 5, 6] rfl)
set_option maxHeartbeats 4000000 in
set_option maxRecDepth 100000 in
theorem la_validate_4 {E : (Nat → Prop) → State → Heap → Prop} {p : Program} {l : Launch} {e : Env} {s : State} {m : MethodId} {args : Array Value} {below : List Frame} {meth : Method} {c : Code} {D1 D2 : va_G} {ad ad2 kd sd vd xd : Nat → Nat} {ca ca2 : Nat → ClassId} {ky ty : Nat → Option Nat} {cO : ClassId} {o b L : Nat} {xs : Nat → Int32} {A : Nat → Prop} {Q : State → Prop} {H : Heap} {locs : List Loc} {cells slots : Nat} {ls : Array Slot} {i : Int32} (hE : o_EK E kd sd vd xd) (hKy : m_KY ky ty sd) (hT : o_ET E) (hfl : l.flags = pinnedFlags ++ [noTraceFlag]) (C1 : o_Cx E p s m args meth c D1 o_cls ((cO, .long) :: o_tys ca) "SchemaJudgeLaw" code (some .boolean) 7 (.tt) A) (C1a : o_Cx E p s m args meth c D1 o_cls (o_tys ca) "SchemaJudgeLaw" code (some .boolean) 7 (.tt) A) (C2 : o_Cx E p s m args meth c D2 m_cls (m_tys ca2) "SchemaJudgeLaw" code (some .boolean) 7 (.tt) A) (hX : va_X b L xs s s.heap) (hbl : b < s.heap.size) (hbA : ¬ A b) (hDD : ∀ (f : Nat → Int64) (rt : Nat) (Sj : SSJ) (T0 : STx) (T1 : STx) (Rd : SRd) (Pg : SPg) (Pt : SPt) (Mk : SMk) (Lk : SLk) (Ck : SCk) (Jd : SJd) (Ld : SLd) (Pr : SPr) (rt2 : Nat) (Ni : SNI) (Np : SNP) (No : SNO) (Nx : SNX) (Nf : SNF) (Na : SNA) (Nh : SNH) (Nq : SNQ) (Nj : SNJ) (M0 : SMT) (M1 : SMT), va_D A (((o, .inl (cO, 1, .inr (.inl f))) :: o_cw ad ca rt Sj T0 T1 Rd Pg Pt Mk Lk Ck Jd Ld Pr) ++ m_cw ad2 ca2 ky ty rt2 Ni Np No Nx Nf Na Nh Nq Nj M0 M1)) (hi1 : vp_in (i + (1:Int32)) L) (hi2 : vp_in (i + (2:Int32)) L) (hi3 : vp_in (i + (3:Int32)) L) (hi4 : vp_in (i + (4:Int32)) L) (hi5 : vp_in (i + (5:Int32)) L) (hcs : cells + 1 ≤ room_1.cells) (hss : slots + 6 ≤ room_1.slots) (n : Nat) (n2 : Nat) (Sj : SSJ) (T0 : STx) (T1 : STx) (Rd : SRd) (Pg : SPg) (Pt : SPt) (Mk : SMk) (Lk : SLk) (Ck : SCk) (Jd : SJd) (Ld : SLd) (Pr : SPr) (rt : Nat) (rt2 : Nat) (Ni : SNI) (Np : SNP) (No : SNO) (Nx : SNX) (Nf : SNF) (Na : SNA) (Nh : SNH) (Nq : SNQ) (Nj : SNJ) (M0 : SMT) (M1 : SMT) (f : Nat → Int64) (Pg' : SPg) (Pt' : SPt) (Ld' : SLd) (Pr' : SPr) (Jd' : SJd) (v : Int32) (v2 : Int32) (M1' : SMT) (Ni' : SNI) (Np' : SNP) (No' : SNO) (Nx' : SNX) (Nq' : SNQ) (Nj' : SNJ) (rt2' : Nat) (h : m_SJ_validate n T0 T1 Pg Pt Mk Ck Ld Pr Jd = some (4, v, Pg', Pt', Ld', Pr', Jd')) (h2 : m_MM_validate n2 M0 M1 Ni Np No Nx Nf Na Nq Nj rt2 = some (v2, M1', Ni', Np', No', Nx', Nq', Nj', rt2')) (hP1 : va_P D1 o_cls ((o, .inl (cO, 1, .inr (.inl f))) :: o_cw ad ca rt Sj T0 T1 Rd Pg Pt Mk Lk Ck Jd Ld Pr) H) (hP2 : va_P D2 m_cls (m_cw ad2 ca2 ky ty rt2 Ni Np No Nx Nf Na Nh Nq Nj M0 M1) H) (hS : va_S A s.heap H locs) (hl : lv_has ls 7 [(0, .ref b), (1, .ref (ad 0)), (2, .ref (ad2 0)), (3, .ref o), (4, .int i)]) (kk : ∀ (H : Heap) (locs : List Loc) (ls : Array Slot), va_P D1 o_cls ((o, .inl (cO, 1, .inr (.inl f))) :: o_cw ad ca rt Sj T0 T1 Rd Pg' Pt' Mk Lk Ck Jd' Ld' Pr') H → va_P D2 m_cls (m_cw ad2 ca2 ky ty rt2' Ni' Np' No' Nx' Nf Na Nh Nq' Nj' M0 M1') H → va_S A s.heap H locs → lv_has ls 7 [(0, .ref b), (1, .ref (ad 0)), (2, .ref (ad2 0)), (3, .ref o), (4, .int i)] → W p l e room_1 s m args below meth c H locs (cells + 1) (slots + 6) Q (F0 m 574 ls [])) : W p l e room_1 s m args below meth c H locs cells slots Q (F0 m 278 ls []) := by
  have C0 := C1
  obtain ⟨hx, hb, -, -, -, hown, hts, hK1, -, -⟩ := C0
  refine lv_aload_n hx hb d_LW_law_278 rfl (lv_at hl 1 rfl) ?_
  refine lv_aload_n hx hb d_LW_law_279 rfl (lv_at hl 3 rfl) ?_
  refine o_SW (rest := []) (st1 := [.int (2:Int32)]) (As := [.ref (ad 0), .ref o]) hE.1 C1 (lh_validate_4 hE hT l hfl n Sj T0 T1 Rd Pg Pt Mk Lk Ck Jd Ld Pr Pg' Pt' Ld' Pr' Jd' rt v f h) hK1 hP1 (o_Dl (hDD f rt Sj T0 T1 Rd Pg Pt Mk Lk Ck Jd Ld Pr rt2 Ni Np No Nx Nf Na Nh Nq Nj M0 M1)) hS hl.1 k_5_226 k_5_227 k_1_0 kw_LW_validate hs_LW_validate rfl rfl ⟨(Nat.le_of_ble_eq_true rfl), (Nat.le_of_ble_eq_true rfl)⟩ rfl (Nat.le_of_ble_eq_true rfl) ⟨hcs, hss⟩ rfl d_LW_law_280 (fun H1 locs1 hQ1 hk hS1 => ?_)
  have hP2 := o_keep2 (hDD f rt Sj T0 T1 Rd Pg Pt Mk Lk Ck Jd Ld Pr rt2 Ni Np No Nx Nf Na Nh Nq Nj M0 M1) hP2 hk
  have hP1 := hQ1
  have hS := hS1
  refine lv_istore (lv' := [(5, .int (2:Int32)), (0, .ref b), (1, .ref (ad 0)), (2, .ref (ad2 0)), (3, .ref o), (4, .int i)]) hx hb d_LW_law_283 hl (by decide) rfl (fun ls hl => ?_)
  refine lv_aload_n hx hb d_LW_law_285 rfl (lv_at hl 3 rfl) ?_
  refine o_VF (rest := []) (st1 := [.int v2]) (As := []) (w1 := (m_cw ad2 ca2 ky ty rt2' Ni' Np' No' Nx' Nf Na Nh Nq' Nj' M0 M1')) hE.1 C2 (e_MM_validate hE hKy l n2 M0 M1 Ni Np No Nx Nf Na Nq Nj rt2 Nh h2) hP2 (o_Dr (hDD f rt Sj T0 T1 Rd Pg' Pt' Mk Lk Ck Jd' Ld' Pr' rt2 Ni Np No Nx Nf Na Nh Nq Nj M0 M1)) hS hl.1 rfl mw_0 k_9_206 k_9_207 k_9_208 k_1_12 k_9_209 hv_MM_validate rfl rfl ⟨(Nat.le_of_ble_eq_true rfl), (Nat.le_of_ble_eq_true rfl)⟩ rfl (Nat.le_of_ble_eq_true rfl) ⟨by omega, by omega⟩ rfl d_LW_law_286 (fun H1 locs1 hQ2 hk hS1 => ?_)
  have hP1 := o_keep1 (hDD f rt Sj T0 T1 Rd Pg' Pt' Mk Lk Ck Jd' Ld' Pr' rt2 Ni Np No Nx Nf Na Nh Nq Nj M0 M1) hP1 hk
  have hP2 := hQ2
  have hS := hS1
  refine lv_istore (lv' := [(6, .int v2), (5, .int (2:Int32)), (0, .ref b), (1, .ref (ad 0)), (2, .ref (ad2 0)), (3, .ref o), (4, .int i)]) hx hb d_LW_law_289 hl (by decide) rfl (fun ls hl => ?_)
  refine lv_goto (tgt := 574) hx hb d_LW_law_291 (by decide) ?_
  exact kk _ _ _ hP1 hP2 hS (lv_sub hl [2, 3, 4, 5, 6] rfl)
set_option maxHeartbeats 4000000 in
set_option maxRecDepth 100000 in
theorem la_pairs {E : (Nat → Prop) → State → Heap → Prop} {p : Program} {l : Launch} {e : Env} {s : State} {m : MethodId} {args : Array Value} {below : List Frame} {meth : Method} {c : Code} {D1 D2 : va_G} {ad ad2 kd sd vd xd : Nat → Nat} {ca ca2 : Nat → ClassId} {ky ty : Nat → Option Nat} {cO : ClassId} {o b L : Nat} {xs : Nat → Int32} {A : Nat → Prop} {Q : State → Prop} {H : Heap} {locs : List Loc} {cells slots : Nat} {ls : Array Slot} {i : Int32} (hE : o_EK E kd sd vd xd) (hKy : m_KY ky ty sd) (hT : o_ET E) (hfl : l.flags = pinnedFlags ++ [noTraceFlag]) (C1 : o_Cx E p s m args meth c D1 o_cls ((cO, .long) :: o_tys ca) "SchemaJudgeLaw" code (some .boolean) 7 (.tt) A) (C1a : o_Cx E p s m args meth c D1 o_cls (o_tys ca) "SchemaJudgeLaw" code (some .boolean) 7 (.tt) A) (C2 : o_Cx E p s m args meth c D2 m_cls (m_tys ca2) "SchemaJudgeLaw" code (some .boolean) 7 (.tt) A) (hX : va_X b L xs s s.heap) (hbl : b < s.heap.size) (hbA : ¬ A b) (hDD : ∀ (f : Nat → Int64) (rt : Nat) (Sj : SSJ) (T0 : STx) (T1 : STx) (Rd : SRd) (Pg : SPg) (Pt : SPt) (Mk : SMk) (Lk : SLk) (Ck : SCk) (Jd : SJd) (Ld : SLd) (Pr : SPr) (rt2 : Nat) (Ni : SNI) (Np : SNP) (No : SNO) (Nx : SNX) (Nf : SNF) (Na : SNA) (Nh : SNH) (Nq : SNQ) (Nj : SNJ) (M0 : SMT) (M1 : SMT), va_D A (((o, .inl (cO, 1, .inr (.inl f))) :: o_cw ad ca rt Sj T0 T1 Rd Pg Pt Mk Lk Ck Jd Ld Pr) ++ m_cw ad2 ca2 ky ty rt2 Ni Np No Nx Nf Na Nh Nq Nj M0 M1)) (hi1 : vp_in (i + (1:Int32)) L) (hi2 : vp_in (i + (2:Int32)) L) (hi3 : vp_in (i + (3:Int32)) L) (hi4 : vp_in (i + (4:Int32)) L) (hi5 : vp_in (i + (5:Int32)) L) (hcs : cells + 1 ≤ room_1.cells) (hss : slots + 6 ≤ room_1.slots) (Sj : SSJ) (T0 : STx) (T1 : STx) (Rd : SRd) (Pg : SPg) (Pt : SPt) (Mk : SMk) (Lk : SLk) (Ck : SCk) (Jd : SJd) (Ld : SLd) (Pr : SPr) (rt : Nat) (rt2 : Nat) (Ni : SNI) (Np : SNP) (No : SNO) (Nx : SNX) (Nf : SNF) (Na : SNA) (Nh : SNH) (Nq : SNQ) (Nj : SNJ) (M0 : SMT) (M1 : SMT) (f : Nat → Int64) (v : Int32) (v2 : Int32) (Ni' : SNI) (h : m_SJ_pairs Pr = some v) (h2 : m_MM_pairs Ni Nq = some (v2, Ni')) (hP1 : va_P D1 o_cls ((o, .inl (cO, 1, .inr (.inl f))) :: o_cw ad ca rt Sj T0 T1 Rd Pg Pt Mk Lk Ck Jd Ld Pr) H) (hP2 : va_P D2 m_cls (m_cw ad2 ca2 ky ty rt2 Ni Np No Nx Nf Na Nh Nq Nj M0 M1) H) (hS : va_S A s.heap H locs) (hl : lv_has ls 7 [(0, .ref b), (1, .ref (ad 0)), (2, .ref (ad2 0)), (3, .ref o), (4, .int i)]) (kk : ∀ (H : Heap) (locs : List Loc) (ls : Array Slot), va_P D1 o_cls ((o, .inl (cO, 1, .inr (.inl f))) :: o_cw ad ca rt Sj T0 T1 Rd Pg Pt Mk Lk Ck Jd Ld Pr) H → va_P D2 m_cls (m_cw ad2 ca2 ky ty rt2 Ni' Np No Nx Nf Na Nh Nq Nj M0 M1) H → va_S A s.heap H locs → lv_has ls 7 [(0, .ref b), (1, .ref (ad 0)), (2, .ref (ad2 0)), (3, .ref o), (4, .int i)] → W p l e room_1 s m args below meth c H locs cells slots Q (F0 m 574 ls [])) : W p l e room_1 s m args below meth c H locs cells slots Q (F0 m 294 ls []) := by
  have C0 := C1
  obtain ⟨hx, hb, -, -, -, hown, hts, hK1, -, -⟩ := C0
  refine lv_aload_n hx hb d_LW_law_294 rfl (lv_at hl 1 rfl) ?_
  refine o_VF (rest := []) (st1 := [.int v]) (As := []) (w1 := (o_cw ad ca rt Sj T0 T1 Rd Pg Pt Mk Lk Ck Jd Ld Pr)) hE.1 C1a (c_SJ_pairs hE l Pr Sj T0 T1 Rd Pg Pt Mk Lk Ck Jd Ld rt h) (show va_P D1 o_cls (o_cw ad ca rt Sj T0 T1 Rd Pg Pt Mk Lk Ck Jd Ld Pr) _ from hP1.sub [1, 2, 3, 4, 5, 6, 7, 8, 9, 10, 11, 12, 13, 14, 15, 16, 17, 18, 19, 20, 21, 22, 23, 24, 25, 26, 27, 28, 29, 30, 31, 32, 33, 34, 35, 36, 37, 38, 39, 40, 41, 42, 43, 44, 45, 46, 47, 48, 49, 50, 51, 52, 53, 54, 55, 56, 57] rfl) ((o_Dl (hDD f rt Sj T0 T1 Rd Pg Pt Mk Lk Ck Jd Ld Pr rt2 Ni Np No Nx Nf Na Nh Nq Nj M0 M1)).sub [1, 2, 3, 4, 5, 6, 7, 8, 9, 10, 11, 12, 13, 14, 15, 16, 17, 18, 19, 20, 21, 22, 23, 24, 25, 26, 27, 28, 29, 30, 31, 32, 33, 34, 35, 36, 37, 38, 39, 40, 41, 42, 43, 44, 45, 46, 47, 48, 49, 50, 51, 52, 53, 54, 55, 56, 57] rfl rfl) hS hl.1 rfl cw_0 k_2_148 k_2_149 k_2_150 k_1_1 k_2_151 hv_SJ_pairs rfl rfl ⟨(Nat.le_of_ble_eq_true rfl), (Nat.le_of_ble_eq_true rfl)⟩ rfl (Nat.le_of_ble_eq_true rfl) ⟨by omega, by omega⟩ rfl d_LW_law_295 (fun H1 locs1 hQ1 hk hS1 => ?_)
  have hP2 := o_keep2 (w1 := (o_cw ad ca rt Sj T0 T1 Rd Pg Pt Mk Lk Ck Jd Ld Pr)) (o_Dl2 (hDD f rt Sj T0 T1 Rd Pg Pt Mk Lk Ck Jd Ld Pr rt2 Ni Np No Nx Nf Na Nh Nq Nj M0 M1)) hP2 hk
  have hP1 : va_P D1 o_cls ((o, .inl (cO, 1, .inr (.inl f))) :: o_cw ad ca rt Sj T0 T1 Rd Pg Pt Mk Lk Ck Jd Ld Pr) H1 := (va_join (wr := [(o, .inl (cO, 1, .inr (.inl f)))]) hP1 (o_Dl (hDD f rt Sj T0 T1 Rd Pg Pt Mk Lk Ck Jd Ld Pr rt2 Ni Np No Nx Nf Na Nh Nq Nj M0 M1)) [1, 2, 3, 4, 5, 6, 7, 8, 9, 10, 11, 12, 13, 14, 15, 16, 17, 18, 19, 20, 21, 22, 23, 24, 25, 26, 27, 28, 29, 30, 31, 32, 33, 34, 35, 36, 37, 38, 39, 40, 41, 42, 43, 44, 45, 46, 47, 48, 49, 50, 51, 52, 53, 54, 55, 56, 57] [0] rfl rfl rfl (by decide) hk (va_free (o_Dl (hDD f rt Sj T0 T1 Rd Pg Pt Mk Lk Ck Jd Ld Pr rt2 Ni Np No Nx Nf Na Nh Nq Nj M0 M1)) hS C1.2.2.2.2.2.2.2.2.1 [1, 2, 3, 4, 5, 6, 7, 8, 9, 10, 11, 12, 13, 14, 15, 16, 17, 18, 19, 20, 21, 22, 23, 24, 25, 26, 27, 28, 29, 30, 31, 32, 33, 34, 35, 36, 37, 38, 39, 40, 41, 42, 43, 44, 45, 46, 47, 48, 49, 50, 51, 52, 53, 54, 55, 56, 57] rfl) hQ1 (o_D_map ((o_Dl (hDD f rt Sj T0 T1 Rd Pg Pt Mk Lk Ck Jd Ld Pr rt2 Ni Np No Nx Nf Na Nh Nq Nj M0 M1)).sub [1, 2, 3, 4, 5, 6, 7, 8, 9, 10, 11, 12, 13, 14, 15, 16, 17, 18, 19, 20, 21, 22, 23, 24, 25, 26, 27, 28, 29, 30, 31, 32, 33, 34, 35, 36, 37, 38, 39, 40, 41, 42, 43, 44, 45, 46, 47, 48, 49, 50, 51, 52, 53, 54, 55, 56, 57] rfl rfl).self rfl)).1
  have hS := hS1
  refine lv_pop hx hb d_LW_law_298 rfl ?_
  refine lv_aload_n hx hb d_LW_law_299 rfl (lv_at hl 2 rfl) ?_
  refine o_VF (rest := []) (st1 := [.int v2]) (As := []) (w1 := (m_cw ad2 ca2 ky ty rt2 Ni' Np No Nx Nf Na Nh Nq Nj M0 M1)) hE.1 C2 (e_MM_pairs hE hKy l Ni Nq Np No Nx Nf Na Nh Nj M0 M1 rt2 h2) hP2 (o_Dr (hDD f rt Sj T0 T1 Rd Pg Pt Mk Lk Ck Jd Ld Pr rt2 Ni Np No Nx Nf Na Nh Nq Nj M0 M1)) hS hl.1 rfl mw_0 k_10_76 k_10_77 k_10_78 k_1_12 k_10_79 hv_MM_pairs rfl rfl ⟨(Nat.le_of_ble_eq_true rfl), (Nat.le_of_ble_eq_true rfl)⟩ rfl (Nat.le_of_ble_eq_true rfl) ⟨by omega, by omega⟩ rfl d_LW_law_300 (fun H1 locs1 hQ2 hk hS1 => ?_)
  have hP1 := o_keep1 (hDD f rt Sj T0 T1 Rd Pg Pt Mk Lk Ck Jd Ld Pr rt2 Ni Np No Nx Nf Na Nh Nq Nj M0 M1) hP1 hk
  have hP2 := hQ2
  have hS := hS1
  refine lv_pop hx hb d_LW_law_303 rfl ?_
  refine lv_goto (tgt := 574) hx hb d_LW_law_304 (by decide) ?_
  exact kk _ _ _ hP1 hP2 hS (lv_sub hl [0, 1, 2, 3, 4] rfl)
set_option maxHeartbeats 4000000 in
set_option maxRecDepth 100000 in
theorem la_pair_0_b0 {E : (Nat → Prop) → State → Heap → Prop} {p : Program} {l : Launch} {e : Env} {s : State} {m : MethodId} {args : Array Value} {below : List Frame} {meth : Method} {c : Code} {D1 D2 : va_G} {ad ad2 kd sd vd xd : Nat → Nat} {ca ca2 : Nat → ClassId} {ky ty : Nat → Option Nat} {cO : ClassId} {o b L : Nat} {xs : Nat → Int32} {A : Nat → Prop} {Q : State → Prop} {H : Heap} {locs : List Loc} {cells slots : Nat} {ls : Array Slot} {i : Int32} (hE : o_EK E kd sd vd xd) (hKy : m_KY ky ty sd) (hT : o_ET E) (hfl : l.flags = pinnedFlags ++ [noTraceFlag]) (C1 : o_Cx E p s m args meth c D1 o_cls ((cO, .long) :: o_tys ca) "SchemaJudgeLaw" code (some .boolean) 7 (.tt) A) (C1a : o_Cx E p s m args meth c D1 o_cls (o_tys ca) "SchemaJudgeLaw" code (some .boolean) 7 (.tt) A) (C2 : o_Cx E p s m args meth c D2 m_cls (m_tys ca2) "SchemaJudgeLaw" code (some .boolean) 7 (.tt) A) (hX : va_X b L xs s s.heap) (hbl : b < s.heap.size) (hbA : ¬ A b) (hDD : ∀ (f : Nat → Int64) (rt : Nat) (Sj : SSJ) (T0 : STx) (T1 : STx) (Rd : SRd) (Pg : SPg) (Pt : SPt) (Mk : SMk) (Lk : SLk) (Ck : SCk) (Jd : SJd) (Ld : SLd) (Pr : SPr) (rt2 : Nat) (Ni : SNI) (Np : SNP) (No : SNO) (Nx : SNX) (Nf : SNF) (Na : SNA) (Nh : SNH) (Nq : SNQ) (Nj : SNJ) (M0 : SMT) (M1 : SMT), va_D A (((o, .inl (cO, 1, .inr (.inl f))) :: o_cw ad ca rt Sj T0 T1 Rd Pg Pt Mk Lk Ck Jd Ld Pr) ++ m_cw ad2 ca2 ky ty rt2 Ni Np No Nx Nf Na Nh Nq Nj M0 M1)) (hi1 : vp_in (i + (1:Int32)) L) (hi2 : vp_in (i + (2:Int32)) L) (hi3 : vp_in (i + (3:Int32)) L) (hi4 : vp_in (i + (4:Int32)) L) (hi5 : vp_in (i + (5:Int32)) L) (hcs : cells + 1 ≤ room_1.cells) (hss : slots + 6 ≤ room_1.slots) (Sj : SSJ) (T0 : STx) (T1 : STx) (Rd : SRd) (Pg : SPg) (Pt : SPt) (Mk : SMk) (Lk : SLk) (Ck : SCk) (Jd : SJd) (Ld : SLd) (Pr : SPr) (rt : Nat) (rt2 : Nat) (Ni : SNI) (Np : SNP) (No : SNO) (Nx : SNX) (Nf : SNF) (Na : SNA) (Nh : SNH) (Nq : SNQ) (Nj : SNJ) (M0 : SMT) (M1 : SMT) (f : Nat → Int64) (v : Int32) (v2 : Int32) (Ni' : SNI) (h : m_SJ_pair (xs (i + (1:Int32)).toNatClampNeg) (0:Int32) Pr = some (0, v)) (hb0 : (xs (i + (2:Int32)).toNatClampNeg) = 0) (h2 : m_MM_pair_1 (xs (i + (1:Int32)).toNatClampNeg) (0:Int32) Ni Nq = some (v2, Ni')) (hP1 : va_P D1 o_cls ((o, .inl (cO, 1, .inr (.inl f))) :: o_cw ad ca rt Sj T0 T1 Rd Pg Pt Mk Lk Ck Jd Ld Pr) H) (hP2 : va_P D2 m_cls (m_cw ad2 ca2 ky ty rt2 Ni Np No Nx Nf Na Nh Nq Nj M0 M1) H) (hS : va_S A s.heap H locs) (hl : lv_has ls 7 [(0, .ref b), (1, .ref (ad 0)), (2, .ref (ad2 0)), (3, .ref o), (4, .int i)]) (kk : ∀ (H : Heap) (locs : List Loc) (ls : Array Slot), va_P D1 o_cls ((o, .inl (cO, 1, .inr (.inl (vp_updL f 0 v.toInt64)))) :: o_cw ad ca rt Sj T0 T1 Rd Pg Pt Mk Lk Ck Jd Ld Pr) H → va_P D2 m_cls (m_cw ad2 ca2 ky ty rt2 Ni' Np No Nx Nf Na Nh Nq Nj M0 M1) H → va_S A s.heap H locs → lv_has ls 7 [(0, .ref b), (1, .ref (ad 0)), (2, .ref (ad2 0)), (3, .ref o), (4, .int i)] → W p l e room_1 s m args below meth c H locs (cells + 1) (slots + 6) Q (F0 m 574 ls [])) : W p l e room_1 s m args below meth c H locs cells slots Q (F0 m 307 ls []) := by
  have C0 := C1
  obtain ⟨hx, hb, -, -, -, hown, hts, hK1, -, -⟩ := C0
  refine lv_aload_n hx hb d_LW_law_307 rfl (lv_at hl 1 rfl) ?_
  refine lv_aload_n hx hb d_LW_law_308 rfl (lv_at hl 0 rfl) ?_
  refine lv_iload hx hb d_LW_law_309 (lv_at hl 4 rfl) ?_
  refine lv_iconst (v := (1:Int32)) hx hb d_LW_law_311 (by decide) ?_
  refine lv_iadd hx hb d_LW_law_312 ?_
  refine va_sld hx hb hX hbl hbA hS hi1 d_LW_law_313 ?_
  refine lv_aload_n hx hb d_LW_law_314 rfl (lv_at hl 0 rfl) ?_
  refine lv_iload hx hb d_LW_law_315 (lv_at hl 4 rfl) ?_
  refine lv_iconst (v := (2:Int32)) hx hb d_LW_law_317 (by decide) ?_
  refine lv_iadd hx hb d_LW_law_318 ?_
  refine va_sld hx hb hX hbl hbA hS hi2 d_LW_law_319 ?_
  refine lv_if_eq (tgt := 327) hx hb d_LW_law_320 (by decide) (fun _ => ?_) (fun z => absurd hb0 z)
  refine lv_iconst (v := (0:Int32)) hx hb d_LW_law_327 (by decide) ?_
  refine lv_aload_n hx hb d_LW_law_328 rfl (lv_at hl 3 rfl) ?_
  refine o_SW (rest := []) (st1 := [.int (0:Int32)]) (As := [.ref (ad 0), .int (xs (i + (1:Int32)).toNatClampNeg), .int (0:Int32), .ref o]) hE.1 C1 (lh_pair_0 hE hT l hfl (xs (i + (1:Int32)).toNatClampNeg) (0:Int32) Sj T0 T1 Rd Pg Pt Mk Lk Ck Jd Ld Pr rt v f h) hK1 hP1 (o_Dl (hDD f rt Sj T0 T1 Rd Pg Pt Mk Lk Ck Jd Ld Pr rt2 Ni Np No Nx Nf Na Nh Nq Nj M0 M1)) hS hl.1 k_7_18 k_7_19 k_1_0 kw_LW_pair hs_LW_pair rfl rfl ⟨(Nat.le_of_ble_eq_true rfl), (Nat.le_of_ble_eq_true rfl)⟩ rfl (Nat.le_of_ble_eq_true rfl) ⟨hcs, hss⟩ rfl d_LW_law_329 (fun H1 locs1 hQ1 hk hS1 => ?_)
  have hP2 := o_keep2 (hDD f rt Sj T0 T1 Rd Pg Pt Mk Lk Ck Jd Ld Pr rt2 Ni Np No Nx Nf Na Nh Nq Nj M0 M1) hP2 hk
  have hP1 := hQ1
  have hS := hS1
  refine lv_istore (lv' := [(5, .int (0:Int32)), (0, .ref b), (1, .ref (ad 0)), (2, .ref (ad2 0)), (3, .ref o), (4, .int i)]) hx hb d_LW_law_332 hl (by decide) rfl (fun ls hl => ?_)
  refine lv_aload_n hx hb d_LW_law_334 rfl (lv_at hl 3 rfl) ?_
  refine lv_aload_n hx hb d_LW_law_335 rfl (lv_at hl 1 rfl) ?_
  refine lv_iload hx hb d_LW_law_336 (lv_at hl 5 rfl) ?_
  refine lv_iconst (v := (1:Int32)) hx hb d_LW_law_338 (by decide) ?_
  refine lv_iadd hx hb d_LW_law_339 ?_
  refine va_sld hx hb hX hbl hbA hS hi1 d_LW_law_340 ?_
  refine lv_aload_n hx hb d_LW_law_341 rfl (lv_at hl 1 rfl) ?_
  refine lv_iload hx hb d_LW_law_342 (lv_at hl 5 rfl) ?_
  refine lv_iconst (v := (2:Int32)) hx hb d_LW_law_344 (by decide) ?_
  refine lv_iadd hx hb d_LW_law_345 ?_
  refine va_sld hx hb hX hbl hbA hS hi2 d_LW_law_346 ?_
  refine lv_if_eq (tgt := 354) hx hb d_LW_law_347 (by decide) (fun _ => ?_) (fun z => absurd hb0 z)
  refine lv_iconst (v := (0:Int32)) hx hb d_LW_law_354 (by decide) ?_
  refine o_VF (rest := []) (st1 := [.int v2]) (As := [.int (xs (i + (1:Int32)).toNatClampNeg), .int (0:Int32)]) (w1 := (m_cw ad2 ca2 ky ty rt2 Ni' Np No Nx Nf Na Nh Nq Nj M0 M1)) hE.1 C2 (e_MM_pair_1 hE hKy l (xs (i + (1:Int32)).toNatClampNeg) (0:Int32) Ni Nq Np No Nx Nf Na Nh Nj M0 M1 rt2 h2) hP2 (o_Dr (hDD (vp_updL f 0 v.toInt64) rt Sj T0 T1 Rd Pg Pt Mk Lk Ck Jd Ld Pr rt2 Ni Np No Nx Nf Na Nh Nq Nj M0 M1)) hS hl.1 rfl mw_0 k_10_80 k_10_81 k_10_82 k_1_12 k_10_83 hv_MM_pair_1 rfl rfl ⟨(Nat.le_of_ble_eq_true rfl), (Nat.le_of_ble_eq_true rfl)⟩ rfl (Nat.le_of_ble_eq_true rfl) ⟨by omega, by omega⟩ rfl d_LW_law_355 (fun H1 locs1 hQ2 hk hS1 => ?_)
  have hP1 := o_keep1 (hDD (vp_updL f 0 v.toInt64) rt Sj T0 T1 Rd Pg Pt Mk Lk Ck Jd Ld Pr rt2 Ni Np No Nx Nf Na Nh Nq Nj M0 M1) hP1 hk
  have hP2 := hQ2
  have hS := hS1
  refine lv_istore (lv' := [(6, .int v2), (5, .int (0:Int32)), (0, .ref b), (1, .ref (ad 0)), (2, .ref (ad2 0)), (3, .ref o), (4, .int i)]) hx hb d_LW_law_358 hl (by decide) rfl (fun ls hl => ?_)
  refine lv_goto (tgt := 574) hx hb d_LW_law_360 (by decide) ?_
  exact kk _ _ _ hP1 hP2 hS (lv_sub hl [2, 3, 4, 5, 6] rfl)
set_option maxHeartbeats 4000000 in
set_option maxRecDepth 100000 in
theorem la_pair_0_b1 {E : (Nat → Prop) → State → Heap → Prop} {p : Program} {l : Launch} {e : Env} {s : State} {m : MethodId} {args : Array Value} {below : List Frame} {meth : Method} {c : Code} {D1 D2 : va_G} {ad ad2 kd sd vd xd : Nat → Nat} {ca ca2 : Nat → ClassId} {ky ty : Nat → Option Nat} {cO : ClassId} {o b L : Nat} {xs : Nat → Int32} {A : Nat → Prop} {Q : State → Prop} {H : Heap} {locs : List Loc} {cells slots : Nat} {ls : Array Slot} {i : Int32} (hE : o_EK E kd sd vd xd) (hKy : m_KY ky ty sd) (hT : o_ET E) (hfl : l.flags = pinnedFlags ++ [noTraceFlag]) (C1 : o_Cx E p s m args meth c D1 o_cls ((cO, .long) :: o_tys ca) "SchemaJudgeLaw" code (some .boolean) 7 (.tt) A) (C1a : o_Cx E p s m args meth c D1 o_cls (o_tys ca) "SchemaJudgeLaw" code (some .boolean) 7 (.tt) A) (C2 : o_Cx E p s m args meth c D2 m_cls (m_tys ca2) "SchemaJudgeLaw" code (some .boolean) 7 (.tt) A) (hX : va_X b L xs s s.heap) (hbl : b < s.heap.size) (hbA : ¬ A b) (hDD : ∀ (f : Nat → Int64) (rt : Nat) (Sj : SSJ) (T0 : STx) (T1 : STx) (Rd : SRd) (Pg : SPg) (Pt : SPt) (Mk : SMk) (Lk : SLk) (Ck : SCk) (Jd : SJd) (Ld : SLd) (Pr : SPr) (rt2 : Nat) (Ni : SNI) (Np : SNP) (No : SNO) (Nx : SNX) (Nf : SNF) (Na : SNA) (Nh : SNH) (Nq : SNQ) (Nj : SNJ) (M0 : SMT) (M1 : SMT), va_D A (((o, .inl (cO, 1, .inr (.inl f))) :: o_cw ad ca rt Sj T0 T1 Rd Pg Pt Mk Lk Ck Jd Ld Pr) ++ m_cw ad2 ca2 ky ty rt2 Ni Np No Nx Nf Na Nh Nq Nj M0 M1)) (hi1 : vp_in (i + (1:Int32)) L) (hi2 : vp_in (i + (2:Int32)) L) (hi3 : vp_in (i + (3:Int32)) L) (hi4 : vp_in (i + (4:Int32)) L) (hi5 : vp_in (i + (5:Int32)) L) (hcs : cells + 1 ≤ room_1.cells) (hss : slots + 6 ≤ room_1.slots) (Sj : SSJ) (T0 : STx) (T1 : STx) (Rd : SRd) (Pg : SPg) (Pt : SPt) (Mk : SMk) (Lk : SLk) (Ck : SCk) (Jd : SJd) (Ld : SLd) (Pr : SPr) (rt : Nat) (rt2 : Nat) (Ni : SNI) (Np : SNP) (No : SNO) (Nx : SNX) (Nf : SNF) (Na : SNA) (Nh : SNH) (Nq : SNQ) (Nj : SNJ) (M0 : SMT) (M1 : SMT) (f : Nat → Int64) (v : Int32) (v2 : Int32) (Ni' : SNI) (h : m_SJ_pair (xs (i + (1:Int32)).toNatClampNeg) (1:Int32) Pr = some (0, v)) (hb0 : ¬ (xs (i + (2:Int32)).toNatClampNeg) = 0) (h2 : m_MM_pair_1 (xs (i + (1:Int32)).toNatClampNeg) (1:Int32) Ni Nq = some (v2, Ni')) (hP1 : va_P D1 o_cls ((o, .inl (cO, 1, .inr (.inl f))) :: o_cw ad ca rt Sj T0 T1 Rd Pg Pt Mk Lk Ck Jd Ld Pr) H) (hP2 : va_P D2 m_cls (m_cw ad2 ca2 ky ty rt2 Ni Np No Nx Nf Na Nh Nq Nj M0 M1) H) (hS : va_S A s.heap H locs) (hl : lv_has ls 7 [(0, .ref b), (1, .ref (ad 0)), (2, .ref (ad2 0)), (3, .ref o), (4, .int i)]) (kk : ∀ (H : Heap) (locs : List Loc) (ls : Array Slot), va_P D1 o_cls ((o, .inl (cO, 1, .inr (.inl (vp_updL f 0 v.toInt64)))) :: o_cw ad ca rt Sj T0 T1 Rd Pg Pt Mk Lk Ck Jd Ld Pr) H → va_P D2 m_cls (m_cw ad2 ca2 ky ty rt2 Ni' Np No Nx Nf Na Nh Nq Nj M0 M1) H → va_S A s.heap H locs → lv_has ls 7 [(0, .ref b), (1, .ref (ad 0)), (2, .ref (ad2 0)), (3, .ref o), (4, .int i)] → W p l e room_1 s m args below meth c H locs (cells + 1) (slots + 6) Q (F0 m 574 ls [])) : W p l e room_1 s m args below meth c H locs cells slots Q (F0 m 307 ls []) := by
  have C0 := C1
  obtain ⟨hx, hb, -, -, -, hown, hts, hK1, -, -⟩ := C0
  refine lv_aload_n hx hb d_LW_law_307 rfl (lv_at hl 1 rfl) ?_
  refine lv_aload_n hx hb d_LW_law_308 rfl (lv_at hl 0 rfl) ?_
  refine lv_iload hx hb d_LW_law_309 (lv_at hl 4 rfl) ?_
  refine lv_iconst (v := (1:Int32)) hx hb d_LW_law_311 (by decide) ?_
  refine lv_iadd hx hb d_LW_law_312 ?_
  refine va_sld hx hb hX hbl hbA hS hi1 d_LW_law_313 ?_
  refine lv_aload_n hx hb d_LW_law_314 rfl (lv_at hl 0 rfl) ?_
  refine lv_iload hx hb d_LW_law_315 (lv_at hl 4 rfl) ?_
  refine lv_iconst (v := (2:Int32)) hx hb d_LW_law_317 (by decide) ?_
  refine lv_iadd hx hb d_LW_law_318 ?_
  refine va_sld hx hb hX hbl hbA hS hi2 d_LW_law_319 ?_
  refine lv_if_eq (tgt := 327) hx hb d_LW_law_320 (by decide) (fun z => absurd z hb0) (fun _ => ?_)
  refine lv_iconst (v := (1:Int32)) hx hb d_LW_law_323 (by decide) ?_
  refine lv_goto (tgt := 328) hx hb d_LW_law_324 (by decide) ?_
  refine lv_aload_n hx hb d_LW_law_328 rfl (lv_at hl 3 rfl) ?_
  refine o_SW (rest := []) (st1 := [.int (0:Int32)]) (As := [.ref (ad 0), .int (xs (i + (1:Int32)).toNatClampNeg), .int (1:Int32), .ref o]) hE.1 C1 (lh_pair_0 hE hT l hfl (xs (i + (1:Int32)).toNatClampNeg) (1:Int32) Sj T0 T1 Rd Pg Pt Mk Lk Ck Jd Ld Pr rt v f h) hK1 hP1 (o_Dl (hDD f rt Sj T0 T1 Rd Pg Pt Mk Lk Ck Jd Ld Pr rt2 Ni Np No Nx Nf Na Nh Nq Nj M0 M1)) hS hl.1 k_7_18 k_7_19 k_1_0 kw_LW_pair hs_LW_pair rfl rfl ⟨(Nat.le_of_ble_eq_true rfl), (Nat.le_of_ble_eq_true rfl)⟩ rfl (Nat.le_of_ble_eq_true rfl) ⟨hcs, hss⟩ rfl d_LW_law_329 (fun H1 locs1 hQ1 hk hS1 => ?_)
  have hP2 := o_keep2 (hDD f rt Sj T0 T1 Rd Pg Pt Mk Lk Ck Jd Ld Pr rt2 Ni Np No Nx Nf Na Nh Nq Nj M0 M1) hP2 hk
  have hP1 := hQ1
  have hS := hS1
  refine lv_istore (lv' := [(5, .int (0:Int32)), (0, .ref b), (1, .ref (ad 0)), (2, .ref (ad2 0)), (3, .ref o), (4, .int i)]) hx hb d_LW_law_332 hl (by decide) rfl (fun ls hl => ?_)
  refine lv_aload_n hx hb d_LW_law_334 rfl (lv_at hl 3 rfl) ?_
  refine lv_aload_n hx hb d_LW_law_335 rfl (lv_at hl 1 rfl) ?_
  refine lv_iload hx hb d_LW_law_336 (lv_at hl 5 rfl) ?_
  refine lv_iconst (v := (1:Int32)) hx hb d_LW_law_338 (by decide) ?_
  refine lv_iadd hx hb d_LW_law_339 ?_
  refine va_sld hx hb hX hbl hbA hS hi1 d_LW_law_340 ?_
  refine lv_aload_n hx hb d_LW_law_341 rfl (lv_at hl 1 rfl) ?_
  refine lv_iload hx hb d_LW_law_342 (lv_at hl 5 rfl) ?_
  refine lv_iconst (v := (2:Int32)) hx hb d_LW_law_344 (by decide) ?_
  refine lv_iadd hx hb d_LW_law_345 ?_
  refine va_sld hx hb hX hbl hbA hS hi2 d_LW_law_346 ?_
  refine lv_if_eq (tgt := 354) hx hb d_LW_law_347 (by decide) (fun z => absurd z hb0) (fun _ => ?_)
  refine lv_iconst (v := (1:Int32)) hx hb d_LW_law_350 (by decide) ?_
  refine lv_goto (tgt := 355) hx hb d_LW_law_351 (by decide) ?_
  refine o_VF (rest := []) (st1 := [.int v2]) (As := [.int (xs (i + (1:Int32)).toNatClampNeg), .int (1:Int32)]) (w1 := (m_cw ad2 ca2 ky ty rt2 Ni' Np No Nx Nf Na Nh Nq Nj M0 M1)) hE.1 C2 (e_MM_pair_1 hE hKy l (xs (i + (1:Int32)).toNatClampNeg) (1:Int32) Ni Nq Np No Nx Nf Na Nh Nj M0 M1 rt2 h2) hP2 (o_Dr (hDD (vp_updL f 0 v.toInt64) rt Sj T0 T1 Rd Pg Pt Mk Lk Ck Jd Ld Pr rt2 Ni Np No Nx Nf Na Nh Nq Nj M0 M1)) hS hl.1 rfl mw_0 k_10_80 k_10_81 k_10_82 k_1_12 k_10_83 hv_MM_pair_1 rfl rfl ⟨(Nat.le_of_ble_eq_true rfl), (Nat.le_of_ble_eq_true rfl)⟩ rfl (Nat.le_of_ble_eq_true rfl) ⟨by omega, by omega⟩ rfl d_LW_law_355 (fun H1 locs1 hQ2 hk hS1 => ?_)
  have hP1 := o_keep1 (hDD (vp_updL f 0 v.toInt64) rt Sj T0 T1 Rd Pg Pt Mk Lk Ck Jd Ld Pr rt2 Ni Np No Nx Nf Na Nh Nq Nj M0 M1) hP1 hk
  have hP2 := hQ2
  have hS := hS1
  refine lv_istore (lv' := [(6, .int v2), (5, .int (0:Int32)), (0, .ref b), (1, .ref (ad 0)), (2, .ref (ad2 0)), (3, .ref o), (4, .int i)]) hx hb d_LW_law_358 hl (by decide) rfl (fun ls hl => ?_)
  refine lv_goto (tgt := 574) hx hb d_LW_law_360 (by decide) ?_
  exact kk _ _ _ hP1 hP2 hS (lv_sub hl [2, 3, 4, 5, 6] rfl)
set_option maxHeartbeats 4000000 in
set_option maxRecDepth 100000 in
theorem la_pair_1_b0 {E : (Nat → Prop) → State → Heap → Prop} {p : Program} {l : Launch} {e : Env} {s : State} {m : MethodId} {args : Array Value} {below : List Frame} {meth : Method} {c : Code} {D1 D2 : va_G} {ad ad2 kd sd vd xd : Nat → Nat} {ca ca2 : Nat → ClassId} {ky ty : Nat → Option Nat} {cO : ClassId} {o b L : Nat} {xs : Nat → Int32} {A : Nat → Prop} {Q : State → Prop} {H : Heap} {locs : List Loc} {cells slots : Nat} {ls : Array Slot} {i : Int32} (hE : o_EK E kd sd vd xd) (hKy : m_KY ky ty sd) (hT : o_ET E) (hfl : l.flags = pinnedFlags ++ [noTraceFlag]) (C1 : o_Cx E p s m args meth c D1 o_cls ((cO, .long) :: o_tys ca) "SchemaJudgeLaw" code (some .boolean) 7 (.tt) A) (C1a : o_Cx E p s m args meth c D1 o_cls (o_tys ca) "SchemaJudgeLaw" code (some .boolean) 7 (.tt) A) (C2 : o_Cx E p s m args meth c D2 m_cls (m_tys ca2) "SchemaJudgeLaw" code (some .boolean) 7 (.tt) A) (hX : va_X b L xs s s.heap) (hbl : b < s.heap.size) (hbA : ¬ A b) (hDD : ∀ (f : Nat → Int64) (rt : Nat) (Sj : SSJ) (T0 : STx) (T1 : STx) (Rd : SRd) (Pg : SPg) (Pt : SPt) (Mk : SMk) (Lk : SLk) (Ck : SCk) (Jd : SJd) (Ld : SLd) (Pr : SPr) (rt2 : Nat) (Ni : SNI) (Np : SNP) (No : SNO) (Nx : SNX) (Nf : SNF) (Na : SNA) (Nh : SNH) (Nq : SNQ) (Nj : SNJ) (M0 : SMT) (M1 : SMT), va_D A (((o, .inl (cO, 1, .inr (.inl f))) :: o_cw ad ca rt Sj T0 T1 Rd Pg Pt Mk Lk Ck Jd Ld Pr) ++ m_cw ad2 ca2 ky ty rt2 Ni Np No Nx Nf Na Nh Nq Nj M0 M1)) (hi1 : vp_in (i + (1:Int32)) L) (hi2 : vp_in (i + (2:Int32)) L) (hi3 : vp_in (i + (3:Int32)) L) (hi4 : vp_in (i + (4:Int32)) L) (hi5 : vp_in (i + (5:Int32)) L) (hcs : cells + 1 ≤ room_1.cells) (hss : slots + 6 ≤ room_1.slots) (Sj : SSJ) (T0 : STx) (T1 : STx) (Rd : SRd) (Pg : SPg) (Pt : SPt) (Mk : SMk) (Lk : SLk) (Ck : SCk) (Jd : SJd) (Ld : SLd) (Pr : SPr) (rt : Nat) (rt2 : Nat) (Ni : SNI) (Np : SNP) (No : SNO) (Nx : SNX) (Nf : SNF) (Na : SNA) (Nh : SNH) (Nq : SNQ) (Nj : SNJ) (M0 : SMT) (M1 : SMT) (f : Nat → Int64) (v : Int32) (v2 : Int32) (Ni' : SNI) (h : m_SJ_pair (xs (i + (1:Int32)).toNatClampNeg) (0:Int32) Pr = some (1, v)) (hb0 : (xs (i + (2:Int32)).toNatClampNeg) = 0) (h2 : m_MM_pair_1 (xs (i + (1:Int32)).toNatClampNeg) (0:Int32) Ni Nq = some (v2, Ni')) (hP1 : va_P D1 o_cls ((o, .inl (cO, 1, .inr (.inl f))) :: o_cw ad ca rt Sj T0 T1 Rd Pg Pt Mk Lk Ck Jd Ld Pr) H) (hP2 : va_P D2 m_cls (m_cw ad2 ca2 ky ty rt2 Ni Np No Nx Nf Na Nh Nq Nj M0 M1) H) (hS : va_S A s.heap H locs) (hl : lv_has ls 7 [(0, .ref b), (1, .ref (ad 0)), (2, .ref (ad2 0)), (3, .ref o), (4, .int i)]) (kk : ∀ (H : Heap) (locs : List Loc) (ls : Array Slot), va_P D1 o_cls ((o, .inl (cO, 1, .inr (.inl f))) :: o_cw ad ca rt Sj T0 T1 Rd Pg Pt Mk Lk Ck Jd Ld Pr) H → va_P D2 m_cls (m_cw ad2 ca2 ky ty rt2 Ni' Np No Nx Nf Na Nh Nq Nj M0 M1) H → va_S A s.heap H locs → lv_has ls 7 [(0, .ref b), (1, .ref (ad 0)), (2, .ref (ad2 0)), (3, .ref o), (4, .int i)] → W p l e room_1 s m args below meth c H locs (cells + 1) (slots + 6) Q (F0 m 574 ls [])) : W p l e room_1 s m args below meth c H locs cells slots Q (F0 m 307 ls []) := by
  have C0 := C1
  obtain ⟨hx, hb, -, -, -, hown, hts, hK1, -, -⟩ := C0
  refine lv_aload_n hx hb d_LW_law_307 rfl (lv_at hl 1 rfl) ?_
  refine lv_aload_n hx hb d_LW_law_308 rfl (lv_at hl 0 rfl) ?_
  refine lv_iload hx hb d_LW_law_309 (lv_at hl 4 rfl) ?_
  refine lv_iconst (v := (1:Int32)) hx hb d_LW_law_311 (by decide) ?_
  refine lv_iadd hx hb d_LW_law_312 ?_
  refine va_sld hx hb hX hbl hbA hS hi1 d_LW_law_313 ?_
  refine lv_aload_n hx hb d_LW_law_314 rfl (lv_at hl 0 rfl) ?_
  refine lv_iload hx hb d_LW_law_315 (lv_at hl 4 rfl) ?_
  refine lv_iconst (v := (2:Int32)) hx hb d_LW_law_317 (by decide) ?_
  refine lv_iadd hx hb d_LW_law_318 ?_
  refine va_sld hx hb hX hbl hbA hS hi2 d_LW_law_319 ?_
  refine lv_if_eq (tgt := 327) hx hb d_LW_law_320 (by decide) (fun _ => ?_) (fun z => absurd hb0 z)
  refine lv_iconst (v := (0:Int32)) hx hb d_LW_law_327 (by decide) ?_
  refine lv_aload_n hx hb d_LW_law_328 rfl (lv_at hl 3 rfl) ?_
  refine o_SW (rest := []) (st1 := [.int (1:Int32)]) (As := [.ref (ad 0), .int (xs (i + (1:Int32)).toNatClampNeg), .int (0:Int32), .ref o]) hE.1 C1 (lh_pair_1 hE hT l hfl (xs (i + (1:Int32)).toNatClampNeg) (0:Int32) Sj T0 T1 Rd Pg Pt Mk Lk Ck Jd Ld Pr rt v f h) hK1 hP1 (o_Dl (hDD f rt Sj T0 T1 Rd Pg Pt Mk Lk Ck Jd Ld Pr rt2 Ni Np No Nx Nf Na Nh Nq Nj M0 M1)) hS hl.1 k_7_18 k_7_19 k_1_0 kw_LW_pair hs_LW_pair rfl rfl ⟨(Nat.le_of_ble_eq_true rfl), (Nat.le_of_ble_eq_true rfl)⟩ rfl (Nat.le_of_ble_eq_true rfl) ⟨hcs, hss⟩ rfl d_LW_law_329 (fun H1 locs1 hQ1 hk hS1 => ?_)
  have hP2 := o_keep2 (hDD f rt Sj T0 T1 Rd Pg Pt Mk Lk Ck Jd Ld Pr rt2 Ni Np No Nx Nf Na Nh Nq Nj M0 M1) hP2 hk
  have hP1 := hQ1
  have hS := hS1
  refine lv_istore (lv' := [(5, .int (1:Int32)), (0, .ref b), (1, .ref (ad 0)), (2, .ref (ad2 0)), (3, .ref o), (4, .int i)]) hx hb d_LW_law_332 hl (by decide) rfl (fun ls hl => ?_)
  refine lv_aload_n hx hb d_LW_law_334 rfl (lv_at hl 3 rfl) ?_
  refine lv_aload_n hx hb d_LW_law_335 rfl (lv_at hl 1 rfl) ?_
  refine lv_iload hx hb d_LW_law_336 (lv_at hl 5 rfl) ?_
  refine lv_iconst (v := (1:Int32)) hx hb d_LW_law_338 (by decide) ?_
  refine lv_iadd hx hb d_LW_law_339 ?_
  refine va_sld hx hb hX hbl hbA hS hi1 d_LW_law_340 ?_
  refine lv_aload_n hx hb d_LW_law_341 rfl (lv_at hl 1 rfl) ?_
  refine lv_iload hx hb d_LW_law_342 (lv_at hl 5 rfl) ?_
  refine lv_iconst (v := (2:Int32)) hx hb d_LW_law_344 (by decide) ?_
  refine lv_iadd hx hb d_LW_law_345 ?_
  refine va_sld hx hb hX hbl hbA hS hi2 d_LW_law_346 ?_
  refine lv_if_eq (tgt := 354) hx hb d_LW_law_347 (by decide) (fun _ => ?_) (fun z => absurd hb0 z)
  refine lv_iconst (v := (0:Int32)) hx hb d_LW_law_354 (by decide) ?_
  refine o_VF (rest := []) (st1 := [.int v2]) (As := [.int (xs (i + (1:Int32)).toNatClampNeg), .int (0:Int32)]) (w1 := (m_cw ad2 ca2 ky ty rt2 Ni' Np No Nx Nf Na Nh Nq Nj M0 M1)) hE.1 C2 (e_MM_pair_1 hE hKy l (xs (i + (1:Int32)).toNatClampNeg) (0:Int32) Ni Nq Np No Nx Nf Na Nh Nj M0 M1 rt2 h2) hP2 (o_Dr (hDD f rt Sj T0 T1 Rd Pg Pt Mk Lk Ck Jd Ld Pr rt2 Ni Np No Nx Nf Na Nh Nq Nj M0 M1)) hS hl.1 rfl mw_0 k_10_80 k_10_81 k_10_82 k_1_12 k_10_83 hv_MM_pair_1 rfl rfl ⟨(Nat.le_of_ble_eq_true rfl), (Nat.le_of_ble_eq_true rfl)⟩ rfl (Nat.le_of_ble_eq_true rfl) ⟨by omega, by omega⟩ rfl d_LW_law_355 (fun H1 locs1 hQ2 hk hS1 => ?_)
  have hP1 := o_keep1 (hDD f rt Sj T0 T1 Rd Pg Pt Mk Lk Ck Jd Ld Pr rt2 Ni Np No Nx Nf Na Nh Nq Nj M0 M1) hP1 hk
  have hP2 := hQ2
  have hS := hS1
  refine lv_istore (lv' := [(6, .int v2), (5, .int (1:Int32)), (0, .ref b), (1, .ref (ad 0)), (2, .ref (ad2 0)), (3, .ref o), (4, .int i)]) hx hb d_LW_law_358 hl (by decide) rfl (fun ls hl => ?_)
  refine lv_goto (tgt := 574) hx hb d_LW_law_360 (by decide) ?_
  exact kk _ _ _ hP1 hP2 hS (lv_sub hl [2, 3, 4, 5, 6] rfl)
set_option maxHeartbeats 4000000 in
set_option maxRecDepth 100000 in
theorem la_pair_1_b1 {E : (Nat → Prop) → State → Heap → Prop} {p : Program} {l : Launch} {e : Env} {s : State} {m : MethodId} {args : Array Value} {below : List Frame} {meth : Method} {c : Code} {D1 D2 : va_G} {ad ad2 kd sd vd xd : Nat → Nat} {ca ca2 : Nat → ClassId} {ky ty : Nat → Option Nat} {cO : ClassId} {o b L : Nat} {xs : Nat → Int32} {A : Nat → Prop} {Q : State → Prop} {H : Heap} {locs : List Loc} {cells slots : Nat} {ls : Array Slot} {i : Int32} (hE : o_EK E kd sd vd xd) (hKy : m_KY ky ty sd) (hT : o_ET E) (hfl : l.flags = pinnedFlags ++ [noTraceFlag]) (C1 : o_Cx E p s m args meth c D1 o_cls ((cO, .long) :: o_tys ca) "SchemaJudgeLaw" code (some .boolean) 7 (.tt) A) (C1a : o_Cx E p s m args meth c D1 o_cls (o_tys ca) "SchemaJudgeLaw" code (some .boolean) 7 (.tt) A) (C2 : o_Cx E p s m args meth c D2 m_cls (m_tys ca2) "SchemaJudgeLaw" code (some .boolean) 7 (.tt) A) (hX : va_X b L xs s s.heap) (hbl : b < s.heap.size) (hbA : ¬ A b) (hDD : ∀ (f : Nat → Int64) (rt : Nat) (Sj : SSJ) (T0 : STx) (T1 : STx) (Rd : SRd) (Pg : SPg) (Pt : SPt) (Mk : SMk) (Lk : SLk) (Ck : SCk) (Jd : SJd) (Ld : SLd) (Pr : SPr) (rt2 : Nat) (Ni : SNI) (Np : SNP) (No : SNO) (Nx : SNX) (Nf : SNF) (Na : SNA) (Nh : SNH) (Nq : SNQ) (Nj : SNJ) (M0 : SMT) (M1 : SMT), va_D A (((o, .inl (cO, 1, .inr (.inl f))) :: o_cw ad ca rt Sj T0 T1 Rd Pg Pt Mk Lk Ck Jd Ld Pr) ++ m_cw ad2 ca2 ky ty rt2 Ni Np No Nx Nf Na Nh Nq Nj M0 M1)) (hi1 : vp_in (i + (1:Int32)) L) (hi2 : vp_in (i + (2:Int32)) L) (hi3 : vp_in (i + (3:Int32)) L) (hi4 : vp_in (i + (4:Int32)) L) (hi5 : vp_in (i + (5:Int32)) L) (hcs : cells + 1 ≤ room_1.cells) (hss : slots + 6 ≤ room_1.slots) (Sj : SSJ) (T0 : STx) (T1 : STx) (Rd : SRd) (Pg : SPg) (Pt : SPt) (Mk : SMk) (Lk : SLk) (Ck : SCk) (Jd : SJd) (Ld : SLd) (Pr : SPr) (rt : Nat) (rt2 : Nat) (Ni : SNI) (Np : SNP) (No : SNO) (Nx : SNX) (Nf : SNF) (Na : SNA) (Nh : SNH) (Nq : SNQ) (Nj : SNJ) (M0 : SMT) (M1 : SMT) (f : Nat → Int64) (v : Int32) (v2 : Int32) (Ni' : SNI) (h : m_SJ_pair (xs (i + (1:Int32)).toNatClampNeg) (1:Int32) Pr = some (1, v)) (hb0 : ¬ (xs (i + (2:Int32)).toNatClampNeg) = 0) (h2 : m_MM_pair_1 (xs (i + (1:Int32)).toNatClampNeg) (1:Int32) Ni Nq = some (v2, Ni')) (hP1 : va_P D1 o_cls ((o, .inl (cO, 1, .inr (.inl f))) :: o_cw ad ca rt Sj T0 T1 Rd Pg Pt Mk Lk Ck Jd Ld Pr) H) (hP2 : va_P D2 m_cls (m_cw ad2 ca2 ky ty rt2 Ni Np No Nx Nf Na Nh Nq Nj M0 M1) H) (hS : va_S A s.heap H locs) (hl : lv_has ls 7 [(0, .ref b), (1, .ref (ad 0)), (2, .ref (ad2 0)), (3, .ref o), (4, .int i)]) (kk : ∀ (H : Heap) (locs : List Loc) (ls : Array Slot), va_P D1 o_cls ((o, .inl (cO, 1, .inr (.inl f))) :: o_cw ad ca rt Sj T0 T1 Rd Pg Pt Mk Lk Ck Jd Ld Pr) H → va_P D2 m_cls (m_cw ad2 ca2 ky ty rt2 Ni' Np No Nx Nf Na Nh Nq Nj M0 M1) H → va_S A s.heap H locs → lv_has ls 7 [(0, .ref b), (1, .ref (ad 0)), (2, .ref (ad2 0)), (3, .ref o), (4, .int i)] → W p l e room_1 s m args below meth c H locs (cells + 1) (slots + 6) Q (F0 m 574 ls [])) : W p l e room_1 s m args below meth c H locs cells slots Q (F0 m 307 ls []) := by
  have C0 := C1
  obtain ⟨hx, hb, -, -, -, hown, hts, hK1, -, -⟩ := C0
  refine lv_aload_n hx hb d_LW_law_307 rfl (lv_at hl 1 rfl) ?_
  refine lv_aload_n hx hb d_LW_law_308 rfl (lv_at hl 0 rfl) ?_
  refine lv_iload hx hb d_LW_law_309 (lv_at hl 4 rfl) ?_
  refine lv_iconst (v := (1:Int32)) hx hb d_LW_law_311 (by decide) ?_
  refine lv_iadd hx hb d_LW_law_312 ?_
  refine va_sld hx hb hX hbl hbA hS hi1 d_LW_law_313 ?_
  refine lv_aload_n hx hb d_LW_law_314 rfl (lv_at hl 0 rfl) ?_
  refine lv_iload hx hb d_LW_law_315 (lv_at hl 4 rfl) ?_
  refine lv_iconst (v := (2:Int32)) hx hb d_LW_law_317 (by decide) ?_
  refine lv_iadd hx hb d_LW_law_318 ?_
  refine va_sld hx hb hX hbl hbA hS hi2 d_LW_law_319 ?_
  refine lv_if_eq (tgt := 327) hx hb d_LW_law_320 (by decide) (fun z => absurd z hb0) (fun _ => ?_)
  refine lv_iconst (v := (1:Int32)) hx hb d_LW_law_323 (by decide) ?_
  refine lv_goto (tgt := 328) hx hb d_LW_law_324 (by decide) ?_
  refine lv_aload_n hx hb d_LW_law_328 rfl (lv_at hl 3 rfl) ?_
  refine o_SW (rest := []) (st1 := [.int (1:Int32)]) (As := [.ref (ad 0), .int (xs (i + (1:Int32)).toNatClampNeg), .int (1:Int32), .ref o]) hE.1 C1 (lh_pair_1 hE hT l hfl (xs (i + (1:Int32)).toNatClampNeg) (1:Int32) Sj T0 T1 Rd Pg Pt Mk Lk Ck Jd Ld Pr rt v f h) hK1 hP1 (o_Dl (hDD f rt Sj T0 T1 Rd Pg Pt Mk Lk Ck Jd Ld Pr rt2 Ni Np No Nx Nf Na Nh Nq Nj M0 M1)) hS hl.1 k_7_18 k_7_19 k_1_0 kw_LW_pair hs_LW_pair rfl rfl ⟨(Nat.le_of_ble_eq_true rfl), (Nat.le_of_ble_eq_true rfl)⟩ rfl (Nat.le_of_ble_eq_true rfl) ⟨hcs, hss⟩ rfl d_LW_law_329 (fun H1 locs1 hQ1 hk hS1 => ?_)
  have hP2 := o_keep2 (hDD f rt Sj T0 T1 Rd Pg Pt Mk Lk Ck Jd Ld Pr rt2 Ni Np No Nx Nf Na Nh Nq Nj M0 M1) hP2 hk
  have hP1 := hQ1
  have hS := hS1
  refine lv_istore (lv' := [(5, .int (1:Int32)), (0, .ref b), (1, .ref (ad 0)), (2, .ref (ad2 0)), (3, .ref o), (4, .int i)]) hx hb d_LW_law_332 hl (by decide) rfl (fun ls hl => ?_)
  refine lv_aload_n hx hb d_LW_law_334 rfl (lv_at hl 3 rfl) ?_
  refine lv_aload_n hx hb d_LW_law_335 rfl (lv_at hl 1 rfl) ?_
  refine lv_iload hx hb d_LW_law_336 (lv_at hl 5 rfl) ?_
  refine lv_iconst (v := (1:Int32)) hx hb d_LW_law_338 (by decide) ?_
  refine lv_iadd hx hb d_LW_law_339 ?_
  refine va_sld hx hb hX hbl hbA hS hi1 d_LW_law_340 ?_
  refine lv_aload_n hx hb d_LW_law_341 rfl (lv_at hl 1 rfl) ?_
  refine lv_iload hx hb d_LW_law_342 (lv_at hl 5 rfl) ?_
  refine lv_iconst (v := (2:Int32)) hx hb d_LW_law_344 (by decide) ?_
  refine lv_iadd hx hb d_LW_law_345 ?_
  refine va_sld hx hb hX hbl hbA hS hi2 d_LW_law_346 ?_
  refine lv_if_eq (tgt := 354) hx hb d_LW_law_347 (by decide) (fun z => absurd z hb0) (fun _ => ?_)
  refine lv_iconst (v := (1:Int32)) hx hb d_LW_law_350 (by decide) ?_
  refine lv_goto (tgt := 355) hx hb d_LW_law_351 (by decide) ?_
  refine o_VF (rest := []) (st1 := [.int v2]) (As := [.int (xs (i + (1:Int32)).toNatClampNeg), .int (1:Int32)]) (w1 := (m_cw ad2 ca2 ky ty rt2 Ni' Np No Nx Nf Na Nh Nq Nj M0 M1)) hE.1 C2 (e_MM_pair_1 hE hKy l (xs (i + (1:Int32)).toNatClampNeg) (1:Int32) Ni Nq Np No Nx Nf Na Nh Nj M0 M1 rt2 h2) hP2 (o_Dr (hDD f rt Sj T0 T1 Rd Pg Pt Mk Lk Ck Jd Ld Pr rt2 Ni Np No Nx Nf Na Nh Nq Nj M0 M1)) hS hl.1 rfl mw_0 k_10_80 k_10_81 k_10_82 k_1_12 k_10_83 hv_MM_pair_1 rfl rfl ⟨(Nat.le_of_ble_eq_true rfl), (Nat.le_of_ble_eq_true rfl)⟩ rfl (Nat.le_of_ble_eq_true rfl) ⟨by omega, by omega⟩ rfl d_LW_law_355 (fun H1 locs1 hQ2 hk hS1 => ?_)
  have hP1 := o_keep1 (hDD f rt Sj T0 T1 Rd Pg Pt Mk Lk Ck Jd Ld Pr rt2 Ni Np No Nx Nf Na Nh Nq Nj M0 M1) hP1 hk
  have hP2 := hQ2
  have hS := hS1
  refine lv_istore (lv' := [(6, .int v2), (5, .int (1:Int32)), (0, .ref b), (1, .ref (ad 0)), (2, .ref (ad2 0)), (3, .ref o), (4, .int i)]) hx hb d_LW_law_358 hl (by decide) rfl (fun ls hl => ?_)
  refine lv_goto (tgt := 574) hx hb d_LW_law_360 (by decide) ?_
  exact kk _ _ _ hP1 hP2 hS (lv_sub hl [2, 3, 4, 5, 6] rfl)
set_option maxHeartbeats 4000000 in
set_option maxRecDepth 100000 in
theorem la_value_0_b0 {E : (Nat → Prop) → State → Heap → Prop} {p : Program} {l : Launch} {e : Env} {s : State} {m : MethodId} {args : Array Value} {below : List Frame} {meth : Method} {c : Code} {D1 D2 : va_G} {ad ad2 kd sd vd xd : Nat → Nat} {ca ca2 : Nat → ClassId} {ky ty : Nat → Option Nat} {cO : ClassId} {o b L : Nat} {xs : Nat → Int32} {A : Nat → Prop} {Q : State → Prop} {H : Heap} {locs : List Loc} {cells slots : Nat} {ls : Array Slot} {i : Int32} (hE : o_EK E kd sd vd xd) (hKy : m_KY ky ty sd) (hT : o_ET E) (hfl : l.flags = pinnedFlags ++ [noTraceFlag]) (C1 : o_Cx E p s m args meth c D1 o_cls ((cO, .long) :: o_tys ca) "SchemaJudgeLaw" code (some .boolean) 7 (.tt) A) (C1a : o_Cx E p s m args meth c D1 o_cls (o_tys ca) "SchemaJudgeLaw" code (some .boolean) 7 (.tt) A) (C2 : o_Cx E p s m args meth c D2 m_cls (m_tys ca2) "SchemaJudgeLaw" code (some .boolean) 7 (.tt) A) (hX : va_X b L xs s s.heap) (hbl : b < s.heap.size) (hbA : ¬ A b) (hDD : ∀ (f : Nat → Int64) (rt : Nat) (Sj : SSJ) (T0 : STx) (T1 : STx) (Rd : SRd) (Pg : SPg) (Pt : SPt) (Mk : SMk) (Lk : SLk) (Ck : SCk) (Jd : SJd) (Ld : SLd) (Pr : SPr) (rt2 : Nat) (Ni : SNI) (Np : SNP) (No : SNO) (Nx : SNX) (Nf : SNF) (Na : SNA) (Nh : SNH) (Nq : SNQ) (Nj : SNJ) (M0 : SMT) (M1 : SMT), va_D A (((o, .inl (cO, 1, .inr (.inl f))) :: o_cw ad ca rt Sj T0 T1 Rd Pg Pt Mk Lk Ck Jd Ld Pr) ++ m_cw ad2 ca2 ky ty rt2 Ni Np No Nx Nf Na Nh Nq Nj M0 M1)) (hi1 : vp_in (i + (1:Int32)) L) (hi2 : vp_in (i + (2:Int32)) L) (hi3 : vp_in (i + (3:Int32)) L) (hi4 : vp_in (i + (4:Int32)) L) (hi5 : vp_in (i + (5:Int32)) L) (hcs : cells + 1 ≤ room_1.cells) (hss : slots + 6 ≤ room_1.slots) (Sj : SSJ) (T0 : STx) (T1 : STx) (Rd : SRd) (Pg : SPg) (Pt : SPt) (Mk : SMk) (Lk : SLk) (Ck : SCk) (Jd : SJd) (Ld : SLd) (Pr : SPr) (rt : Nat) (rt2 : Nat) (Ni : SNI) (Np : SNP) (No : SNO) (Nx : SNX) (Nf : SNF) (Na : SNA) (Nh : SNH) (Nq : SNQ) (Nj : SNJ) (M0 : SMT) (M1 : SMT) (f : Nat → Int64) (v : Int32) (v2 : Int32) (Ni' : SNI) (h : m_SJ_value (0:Int32) (xs (i + (2:Int32)).toNatClampNeg) (xs (i + (3:Int32)).toNatClampNeg) T0 T1 = some (0, v)) (hb0 : (xs (i + (1:Int32)).toNatClampNeg) = 0) (h2 : m_MM_value (0:Int32) (xs (i + (2:Int32)).toNatClampNeg) (xs (i + (3:Int32)).toNatClampNeg) M0 M1 Ni = some (v2, Ni')) (hP1 : va_P D1 o_cls ((o, .inl (cO, 1, .inr (.inl f))) :: o_cw ad ca rt Sj T0 T1 Rd Pg Pt Mk Lk Ck Jd Ld Pr) H) (hP2 : va_P D2 m_cls (m_cw ad2 ca2 ky ty rt2 Ni Np No Nx Nf Na Nh Nq Nj M0 M1) H) (hS : va_S A s.heap H locs) (hl : lv_has ls 7 [(0, .ref b), (1, .ref (ad 0)), (2, .ref (ad2 0)), (3, .ref o), (4, .int i)]) (kk : ∀ (H : Heap) (locs : List Loc) (ls : Array Slot), va_P D1 o_cls ((o, .inl (cO, 1, .inr (.inl (vp_updL f 0 v.toInt64)))) :: o_cw ad ca rt Sj T0 T1 Rd Pg Pt Mk Lk Ck Jd Ld Pr) H → va_P D2 m_cls (m_cw ad2 ca2 ky ty rt2 Ni' Np No Nx Nf Na Nh Nq Nj M0 M1) H → va_S A s.heap H locs → lv_has ls 7 [(0, .ref b), (1, .ref (ad 0)), (2, .ref (ad2 0)), (3, .ref o), (4, .int i)] → W p l e room_1 s m args below meth c H locs (cells + 1) (slots + 6) Q (F0 m 574 ls [])) : W p l e room_1 s m args below meth c H locs cells slots Q (F0 m 363 ls []) := by
  have C0 := C1
  obtain ⟨hx, hb, -, -, -, hown, hts, hK1, -, -⟩ := C0
  refine lv_aload_n hx hb d_LW_law_363 rfl (lv_at hl 1 rfl) ?_
  refine lv_aload_n hx hb d_LW_law_364 rfl (lv_at hl 0 rfl) ?_
  refine lv_iload hx hb d_LW_law_365 (lv_at hl 4 rfl) ?_
  refine lv_iconst (v := (1:Int32)) hx hb d_LW_law_367 (by decide) ?_
  refine lv_iadd hx hb d_LW_law_368 ?_
  refine va_sld hx hb hX hbl hbA hS hi1 d_LW_law_369 ?_
  refine lv_if_eq (tgt := 377) hx hb d_LW_law_370 (by decide) (fun _ => ?_) (fun z => absurd hb0 z)
  refine lv_iconst (v := (0:Int32)) hx hb d_LW_law_377 (by decide) ?_
  refine lv_aload_n hx hb d_LW_law_378 rfl (lv_at hl 0 rfl) ?_
  refine lv_iload hx hb d_LW_law_379 (lv_at hl 4 rfl) ?_
  refine lv_iconst (v := (2:Int32)) hx hb d_LW_law_381 (by decide) ?_
  refine lv_iadd hx hb d_LW_law_382 ?_
  refine va_sld hx hb hX hbl hbA hS hi2 d_LW_law_383 ?_
  refine lv_aload_n hx hb d_LW_law_384 rfl (lv_at hl 0 rfl) ?_
  refine lv_iload hx hb d_LW_law_385 (lv_at hl 4 rfl) ?_
  refine lv_iconst (v := (3:Int32)) hx hb d_LW_law_387 (by decide) ?_
  refine lv_iadd hx hb d_LW_law_388 ?_
  refine va_sld hx hb hX hbl hbA hS hi3 d_LW_law_389 ?_
  refine lv_aload_n hx hb d_LW_law_390 rfl (lv_at hl 3 rfl) ?_
  refine o_SW (rest := []) (st1 := [.int (0:Int32)]) (As := [.ref (ad 0), .int (0:Int32), .int (xs (i + (2:Int32)).toNatClampNeg), .int (xs (i + (3:Int32)).toNatClampNeg), .ref o]) hE.1 C1 (lh_value_0 hE hT l hfl (0:Int32) (xs (i + (2:Int32)).toNatClampNeg) (xs (i + (3:Int32)).toNatClampNeg) Sj T0 T1 Rd Pg Pt Mk Lk Ck Jd Ld Pr rt v f h) hK1 hP1 (o_Dl (hDD f rt Sj T0 T1 Rd Pg Pt Mk Lk Ck Jd Ld Pr rt2 Ni Np No Nx Nf Na Nh Nq Nj M0 M1)) hS hl.1 k_7_34 k_7_35 k_1_0 kw_LW_value hs_LW_value rfl rfl ⟨(Nat.le_of_ble_eq_true rfl), (Nat.le_of_ble_eq_true rfl)⟩ rfl (Nat.le_of_ble_eq_true rfl) ⟨hcs, hss⟩ rfl d_LW_law_391 (fun H1 locs1 hQ1 hk hS1 => ?_)
  have hP2 := o_keep2 (hDD f rt Sj T0 T1 Rd Pg Pt Mk Lk Ck Jd Ld Pr rt2 Ni Np No Nx Nf Na Nh Nq Nj M0 M1) hP2 hk
  have hP1 := hQ1
  have hS := hS1
  refine lv_istore (lv' := [(5, .int (0:Int32)), (0, .ref b), (1, .ref (ad 0)), (2, .ref (ad2 0)), (3, .ref o), (4, .int i)]) hx hb d_LW_law_394 hl (by decide) rfl (fun ls hl => ?_)
  refine lv_aload_n hx hb d_LW_law_396 rfl (lv_at hl 3 rfl) ?_
  refine lv_aload_n hx hb d_LW_law_397 rfl (lv_at hl 1 rfl) ?_
  refine lv_iload hx hb d_LW_law_398 (lv_at hl 5 rfl) ?_
  refine lv_iconst (v := (1:Int32)) hx hb d_LW_law_400 (by decide) ?_
  refine lv_iadd hx hb d_LW_law_401 ?_
  refine va_sld hx hb hX hbl hbA hS hi1 d_LW_law_402 ?_
  refine lv_if_eq (tgt := 410) hx hb d_LW_law_403 (by decide) (fun _ => ?_) (fun z => absurd hb0 z)
  refine lv_iconst (v := (0:Int32)) hx hb d_LW_law_410 (by decide) ?_
  refine lv_aload_n hx hb d_LW_law_411 rfl (lv_at hl 1 rfl) ?_
  refine lv_iload hx hb d_LW_law_412 (lv_at hl 5 rfl) ?_
  refine lv_iconst (v := (2:Int32)) hx hb d_LW_law_414 (by decide) ?_
  refine lv_iadd hx hb d_LW_law_415 ?_
  refine va_sld hx hb hX hbl hbA hS hi2 d_LW_law_416 ?_
  refine lv_aload_n hx hb d_LW_law_417 rfl (lv_at hl 1 rfl) ?_
  refine lv_iload hx hb d_LW_law_418 (lv_at hl 5 rfl) ?_
  refine lv_iconst (v := (3:Int32)) hx hb d_LW_law_420 (by decide) ?_
  refine lv_iadd hx hb d_LW_law_421 ?_
  refine va_sld hx hb hX hbl hbA hS hi3 d_LW_law_422 ?_
  refine o_VF (rest := []) (st1 := [.int v2]) (As := [.int (0:Int32), .int (xs (i + (2:Int32)).toNatClampNeg), .int (xs (i + (3:Int32)).toNatClampNeg)]) (w1 := (m_cw ad2 ca2 ky ty rt2 Ni' Np No Nx Nf Na Nh Nq Nj M0 M1)) hE.1 C2 (e_MM_value hE hKy l (0:Int32) (xs (i + (2:Int32)).toNatClampNeg) (xs (i + (3:Int32)).toNatClampNeg) M0 M1 Ni Np No Nx Nf Na Nh Nq Nj rt2 h2) hP2 (o_Dr (hDD (vp_updL f 0 v.toInt64) rt Sj T0 T1 Rd Pg Pt Mk Lk Ck Jd Ld Pr rt2 Ni Np No Nx Nf Na Nh Nq Nj M0 M1)) hS hl.1 rfl mw_0 k_10_84 k_10_85 k_10_86 k_1_12 k_10_87 hv_MM_value rfl rfl ⟨(Nat.le_of_ble_eq_true rfl), (Nat.le_of_ble_eq_true rfl)⟩ rfl (Nat.le_of_ble_eq_true rfl) ⟨by omega, by omega⟩ rfl d_LW_law_423 (fun H1 locs1 hQ2 hk hS1 => ?_)
  have hP1 := o_keep1 (hDD (vp_updL f 0 v.toInt64) rt Sj T0 T1 Rd Pg Pt Mk Lk Ck Jd Ld Pr rt2 Ni Np No Nx Nf Na Nh Nq Nj M0 M1) hP1 hk
  have hP2 := hQ2
  have hS := hS1
  refine lv_istore (lv' := [(6, .int v2), (5, .int (0:Int32)), (0, .ref b), (1, .ref (ad 0)), (2, .ref (ad2 0)), (3, .ref o), (4, .int i)]) hx hb d_LW_law_426 hl (by decide) rfl (fun ls hl => ?_)
  refine lv_goto (tgt := 574) hx hb d_LW_law_428 (by decide) ?_
  exact kk _ _ _ hP1 hP2 hS (lv_sub hl [2, 3, 4, 5, 6] rfl)
set_option maxHeartbeats 4000000 in
set_option maxRecDepth 100000 in
theorem la_value_0_b1 {E : (Nat → Prop) → State → Heap → Prop} {p : Program} {l : Launch} {e : Env} {s : State} {m : MethodId} {args : Array Value} {below : List Frame} {meth : Method} {c : Code} {D1 D2 : va_G} {ad ad2 kd sd vd xd : Nat → Nat} {ca ca2 : Nat → ClassId} {ky ty : Nat → Option Nat} {cO : ClassId} {o b L : Nat} {xs : Nat → Int32} {A : Nat → Prop} {Q : State → Prop} {H : Heap} {locs : List Loc} {cells slots : Nat} {ls : Array Slot} {i : Int32} (hE : o_EK E kd sd vd xd) (hKy : m_KY ky ty sd) (hT : o_ET E) (hfl : l.flags = pinnedFlags ++ [noTraceFlag]) (C1 : o_Cx E p s m args meth c D1 o_cls ((cO, .long) :: o_tys ca) "SchemaJudgeLaw" code (some .boolean) 7 (.tt) A) (C1a : o_Cx E p s m args meth c D1 o_cls (o_tys ca) "SchemaJudgeLaw" code (some .boolean) 7 (.tt) A) (C2 : o_Cx E p s m args meth c D2 m_cls (m_tys ca2) "SchemaJudgeLaw" code (some .boolean) 7 (.tt) A) (hX : va_X b L xs s s.heap) (hbl : b < s.heap.size) (hbA : ¬ A b) (hDD : ∀ (f : Nat → Int64) (rt : Nat) (Sj : SSJ) (T0 : STx) (T1 : STx) (Rd : SRd) (Pg : SPg) (Pt : SPt) (Mk : SMk) (Lk : SLk) (Ck : SCk) (Jd : SJd) (Ld : SLd) (Pr : SPr) (rt2 : Nat) (Ni : SNI) (Np : SNP) (No : SNO) (Nx : SNX) (Nf : SNF) (Na : SNA) (Nh : SNH) (Nq : SNQ) (Nj : SNJ) (M0 : SMT) (M1 : SMT), va_D A (((o, .inl (cO, 1, .inr (.inl f))) :: o_cw ad ca rt Sj T0 T1 Rd Pg Pt Mk Lk Ck Jd Ld Pr) ++ m_cw ad2 ca2 ky ty rt2 Ni Np No Nx Nf Na Nh Nq Nj M0 M1)) (hi1 : vp_in (i + (1:Int32)) L) (hi2 : vp_in (i + (2:Int32)) L) (hi3 : vp_in (i + (3:Int32)) L) (hi4 : vp_in (i + (4:Int32)) L) (hi5 : vp_in (i + (5:Int32)) L) (hcs : cells + 1 ≤ room_1.cells) (hss : slots + 6 ≤ room_1.slots) (Sj : SSJ) (T0 : STx) (T1 : STx) (Rd : SRd) (Pg : SPg) (Pt : SPt) (Mk : SMk) (Lk : SLk) (Ck : SCk) (Jd : SJd) (Ld : SLd) (Pr : SPr) (rt : Nat) (rt2 : Nat) (Ni : SNI) (Np : SNP) (No : SNO) (Nx : SNX) (Nf : SNF) (Na : SNA) (Nh : SNH) (Nq : SNQ) (Nj : SNJ) (M0 : SMT) (M1 : SMT) (f : Nat → Int64) (v : Int32) (v2 : Int32) (Ni' : SNI) (h : m_SJ_value (1:Int32) (xs (i + (2:Int32)).toNatClampNeg) (xs (i + (3:Int32)).toNatClampNeg) T0 T1 = some (0, v)) (hb0 : ¬ (xs (i + (1:Int32)).toNatClampNeg) = 0) (h2 : m_MM_value (1:Int32) (xs (i + (2:Int32)).toNatClampNeg) (xs (i + (3:Int32)).toNatClampNeg) M0 M1 Ni = some (v2, Ni')) (hP1 : va_P D1 o_cls ((o, .inl (cO, 1, .inr (.inl f))) :: o_cw ad ca rt Sj T0 T1 Rd Pg Pt Mk Lk Ck Jd Ld Pr) H) (hP2 : va_P D2 m_cls (m_cw ad2 ca2 ky ty rt2 Ni Np No Nx Nf Na Nh Nq Nj M0 M1) H) (hS : va_S A s.heap H locs) (hl : lv_has ls 7 [(0, .ref b), (1, .ref (ad 0)), (2, .ref (ad2 0)), (3, .ref o), (4, .int i)]) (kk : ∀ (H : Heap) (locs : List Loc) (ls : Array Slot), va_P D1 o_cls ((o, .inl (cO, 1, .inr (.inl (vp_updL f 0 v.toInt64)))) :: o_cw ad ca rt Sj T0 T1 Rd Pg Pt Mk Lk Ck Jd Ld Pr) H → va_P D2 m_cls (m_cw ad2 ca2 ky ty rt2 Ni' Np No Nx Nf Na Nh Nq Nj M0 M1) H → va_S A s.heap H locs → lv_has ls 7 [(0, .ref b), (1, .ref (ad 0)), (2, .ref (ad2 0)), (3, .ref o), (4, .int i)] → W p l e room_1 s m args below meth c H locs (cells + 1) (slots + 6) Q (F0 m 574 ls [])) : W p l e room_1 s m args below meth c H locs cells slots Q (F0 m 363 ls []) := by
  have C0 := C1
  obtain ⟨hx, hb, -, -, -, hown, hts, hK1, -, -⟩ := C0
  refine lv_aload_n hx hb d_LW_law_363 rfl (lv_at hl 1 rfl) ?_
  refine lv_aload_n hx hb d_LW_law_364 rfl (lv_at hl 0 rfl) ?_
  refine lv_iload hx hb d_LW_law_365 (lv_at hl 4 rfl) ?_
  refine lv_iconst (v := (1:Int32)) hx hb d_LW_law_367 (by decide) ?_
  refine lv_iadd hx hb d_LW_law_368 ?_
  refine va_sld hx hb hX hbl hbA hS hi1 d_LW_law_369 ?_
  refine lv_if_eq (tgt := 377) hx hb d_LW_law_370 (by decide) (fun z => absurd z hb0) (fun _ => ?_)
  refine lv_iconst (v := (1:Int32)) hx hb d_LW_law_373 (by decide) ?_
  refine lv_goto (tgt := 378) hx hb d_LW_law_374 (by decide) ?_
  refine lv_aload_n hx hb d_LW_law_378 rfl (lv_at hl 0 rfl) ?_
  refine lv_iload hx hb d_LW_law_379 (lv_at hl 4 rfl) ?_
  refine lv_iconst (v := (2:Int32)) hx hb d_LW_law_381 (by decide) ?_
  refine lv_iadd hx hb d_LW_law_382 ?_
  refine va_sld hx hb hX hbl hbA hS hi2 d_LW_law_383 ?_
  refine lv_aload_n hx hb d_LW_law_384 rfl (lv_at hl 0 rfl) ?_
  refine lv_iload hx hb d_LW_law_385 (lv_at hl 4 rfl) ?_
  refine lv_iconst (v := (3:Int32)) hx hb d_LW_law_387 (by decide) ?_
  refine lv_iadd hx hb d_LW_law_388 ?_
  refine va_sld hx hb hX hbl hbA hS hi3 d_LW_law_389 ?_
  refine lv_aload_n hx hb d_LW_law_390 rfl (lv_at hl 3 rfl) ?_
  refine o_SW (rest := []) (st1 := [.int (0:Int32)]) (As := [.ref (ad 0), .int (1:Int32), .int (xs (i + (2:Int32)).toNatClampNeg), .int (xs (i + (3:Int32)).toNatClampNeg), .ref o]) hE.1 C1 (lh_value_0 hE hT l hfl (1:Int32) (xs (i + (2:Int32)).toNatClampNeg) (xs (i + (3:Int32)).toNatClampNeg) Sj T0 T1 Rd Pg Pt Mk Lk Ck Jd Ld Pr rt v f h) hK1 hP1 (o_Dl (hDD f rt Sj T0 T1 Rd Pg Pt Mk Lk Ck Jd Ld Pr rt2 Ni Np No Nx Nf Na Nh Nq Nj M0 M1)) hS hl.1 k_7_34 k_7_35 k_1_0 kw_LW_value hs_LW_value rfl rfl ⟨(Nat.le_of_ble_eq_true rfl), (Nat.le_of_ble_eq_true rfl)⟩ rfl (Nat.le_of_ble_eq_true rfl) ⟨hcs, hss⟩ rfl d_LW_law_391 (fun H1 locs1 hQ1 hk hS1 => ?_)
  have hP2 := o_keep2 (hDD f rt Sj T0 T1 Rd Pg Pt Mk Lk Ck Jd Ld Pr rt2 Ni Np No Nx Nf Na Nh Nq Nj M0 M1) hP2 hk
  have hP1 := hQ1
  have hS := hS1
  refine lv_istore (lv' := [(5, .int (0:Int32)), (0, .ref b), (1, .ref (ad 0)), (2, .ref (ad2 0)), (3, .ref o), (4, .int i)]) hx hb d_LW_law_394 hl (by decide) rfl (fun ls hl => ?_)
  refine lv_aload_n hx hb d_LW_law_396 rfl (lv_at hl 3 rfl) ?_
  refine lv_aload_n hx hb d_LW_law_397 rfl (lv_at hl 1 rfl) ?_
  refine lv_iload hx hb d_LW_law_398 (lv_at hl 5 rfl) ?_
  refine lv_iconst (v := (1:Int32)) hx hb d_LW_law_400 (by decide) ?_
  refine lv_iadd hx hb d_LW_law_401 ?_
  refine va_sld hx hb hX hbl hbA hS hi1 d_LW_law_402 ?_
  refine lv_if_eq (tgt := 410) hx hb d_LW_law_403 (by decide) (fun z => absurd z hb0) (fun _ => ?_)
  refine lv_iconst (v := (1:Int32)) hx hb d_LW_law_406 (by decide) ?_
  refine lv_goto (tgt := 411) hx hb d_LW_law_407 (by decide) ?_
  refine lv_aload_n hx hb d_LW_law_411 rfl (lv_at hl 1 rfl) ?_
  refine lv_iload hx hb d_LW_law_412 (lv_at hl 5 rfl) ?_
  refine lv_iconst (v := (2:Int32)) hx hb d_LW_law_414 (by decide) ?_
  refine lv_iadd hx hb d_LW_law_415 ?_
  refine va_sld hx hb hX hbl hbA hS hi2 d_LW_law_416 ?_
  refine lv_aload_n hx hb d_LW_law_417 rfl (lv_at hl 1 rfl) ?_
  refine lv_iload hx hb d_LW_law_418 (lv_at hl 5 rfl) ?_
  refine lv_iconst (v := (3:Int32)) hx hb d_LW_law_420 (by decide) ?_
  refine lv_iadd hx hb d_LW_law_421 ?_
  refine va_sld hx hb hX hbl hbA hS hi3 d_LW_law_422 ?_
  refine o_VF (rest := []) (st1 := [.int v2]) (As := [.int (1:Int32), .int (xs (i + (2:Int32)).toNatClampNeg), .int (xs (i + (3:Int32)).toNatClampNeg)]) (w1 := (m_cw ad2 ca2 ky ty rt2 Ni' Np No Nx Nf Na Nh Nq Nj M0 M1)) hE.1 C2 (e_MM_value hE hKy l (1:Int32) (xs (i + (2:Int32)).toNatClampNeg) (xs (i + (3:Int32)).toNatClampNeg) M0 M1 Ni Np No Nx Nf Na Nh Nq Nj rt2 h2) hP2 (o_Dr (hDD (vp_updL f 0 v.toInt64) rt Sj T0 T1 Rd Pg Pt Mk Lk Ck Jd Ld Pr rt2 Ni Np No Nx Nf Na Nh Nq Nj M0 M1)) hS hl.1 rfl mw_0 k_10_84 k_10_85 k_10_86 k_1_12 k_10_87 hv_MM_value rfl rfl ⟨(Nat.le_of_ble_eq_true rfl), (Nat.le_of_ble_eq_true rfl)⟩ rfl (Nat.le_of_ble_eq_true rfl) ⟨by omega, by omega⟩ rfl d_LW_law_423 (fun H1 locs1 hQ2 hk hS1 => ?_)
  have hP1 := o_keep1 (hDD (vp_updL f 0 v.toInt64) rt Sj T0 T1 Rd Pg Pt Mk Lk Ck Jd Ld Pr rt2 Ni Np No Nx Nf Na Nh Nq Nj M0 M1) hP1 hk
  have hP2 := hQ2
  have hS := hS1
  refine lv_istore (lv' := [(6, .int v2), (5, .int (0:Int32)), (0, .ref b), (1, .ref (ad 0)), (2, .ref (ad2 0)), (3, .ref o), (4, .int i)]) hx hb d_LW_law_426 hl (by decide) rfl (fun ls hl => ?_)
  refine lv_goto (tgt := 574) hx hb d_LW_law_428 (by decide) ?_
  exact kk _ _ _ hP1 hP2 hS (lv_sub hl [2, 3, 4, 5, 6] rfl)
set_option maxHeartbeats 4000000 in
set_option maxRecDepth 100000 in
theorem la_value_1_b0 {E : (Nat → Prop) → State → Heap → Prop} {p : Program} {l : Launch} {e : Env} {s : State} {m : MethodId} {args : Array Value} {below : List Frame} {meth : Method} {c : Code} {D1 D2 : va_G} {ad ad2 kd sd vd xd : Nat → Nat} {ca ca2 : Nat → ClassId} {ky ty : Nat → Option Nat} {cO : ClassId} {o b L : Nat} {xs : Nat → Int32} {A : Nat → Prop} {Q : State → Prop} {H : Heap} {locs : List Loc} {cells slots : Nat} {ls : Array Slot} {i : Int32} (hE : o_EK E kd sd vd xd) (hKy : m_KY ky ty sd) (hT : o_ET E) (hfl : l.flags = pinnedFlags ++ [noTraceFlag]) (C1 : o_Cx E p s m args meth c D1 o_cls ((cO, .long) :: o_tys ca) "SchemaJudgeLaw" code (some .boolean) 7 (.tt) A) (C1a : o_Cx E p s m args meth c D1 o_cls (o_tys ca) "SchemaJudgeLaw" code (some .boolean) 7 (.tt) A) (C2 : o_Cx E p s m args meth c D2 m_cls (m_tys ca2) "SchemaJudgeLaw" code (some .boolean) 7 (.tt) A) (hX : va_X b L xs s s.heap) (hbl : b < s.heap.size) (hbA : ¬ A b) (hDD : ∀ (f : Nat → Int64) (rt : Nat) (Sj : SSJ) (T0 : STx) (T1 : STx) (Rd : SRd) (Pg : SPg) (Pt : SPt) (Mk : SMk) (Lk : SLk) (Ck : SCk) (Jd : SJd) (Ld : SLd) (Pr : SPr) (rt2 : Nat) (Ni : SNI) (Np : SNP) (No : SNO) (Nx : SNX) (Nf : SNF) (Na : SNA) (Nh : SNH) (Nq : SNQ) (Nj : SNJ) (M0 : SMT) (M1 : SMT), va_D A (((o, .inl (cO, 1, .inr (.inl f))) :: o_cw ad ca rt Sj T0 T1 Rd Pg Pt Mk Lk Ck Jd Ld Pr) ++ m_cw ad2 ca2 ky ty rt2 Ni Np No Nx Nf Na Nh Nq Nj M0 M1)) (hi1 : vp_in (i + (1:Int32)) L) (hi2 : vp_in (i + (2:Int32)) L) (hi3 : vp_in (i + (3:Int32)) L) (hi4 : vp_in (i + (4:Int32)) L) (hi5 : vp_in (i + (5:Int32)) L) (hcs : cells + 1 ≤ room_1.cells) (hss : slots + 6 ≤ room_1.slots) (Sj : SSJ) (T0 : STx) (T1 : STx) (Rd : SRd) (Pg : SPg) (Pt : SPt) (Mk : SMk) (Lk : SLk) (Ck : SCk) (Jd : SJd) (Ld : SLd) (Pr : SPr) (rt : Nat) (rt2 : Nat) (Ni : SNI) (Np : SNP) (No : SNO) (Nx : SNX) (Nf : SNF) (Na : SNA) (Nh : SNH) (Nq : SNQ) (Nj : SNJ) (M0 : SMT) (M1 : SMT) (f : Nat → Int64) (v : Int32) (v2 : Int32) (Ni' : SNI) (h : m_SJ_value (0:Int32) (xs (i + (2:Int32)).toNatClampNeg) (xs (i + (3:Int32)).toNatClampNeg) T0 T1 = some (1, v)) (hb0 : (xs (i + (1:Int32)).toNatClampNeg) = 0) (h2 : m_MM_value (0:Int32) (xs (i + (2:Int32)).toNatClampNeg) (xs (i + (3:Int32)).toNatClampNeg) M0 M1 Ni = some (v2, Ni')) (hP1 : va_P D1 o_cls ((o, .inl (cO, 1, .inr (.inl f))) :: o_cw ad ca rt Sj T0 T1 Rd Pg Pt Mk Lk Ck Jd Ld Pr) H) (hP2 : va_P D2 m_cls (m_cw ad2 ca2 ky ty rt2 Ni Np No Nx Nf Na Nh Nq Nj M0 M1) H) (hS : va_S A s.heap H locs) (hl : lv_has ls 7 [(0, .ref b), (1, .ref (ad 0)), (2, .ref (ad2 0)), (3, .ref o), (4, .int i)]) (kk : ∀ (H : Heap) (locs : List Loc) (ls : Array Slot), va_P D1 o_cls ((o, .inl (cO, 1, .inr (.inl f))) :: o_cw ad ca rt Sj T0 T1 Rd Pg Pt Mk Lk Ck Jd Ld Pr) H → va_P D2 m_cls (m_cw ad2 ca2 ky ty rt2 Ni' Np No Nx Nf Na Nh Nq Nj M0 M1) H → va_S A s.heap H locs → lv_has ls 7 [(0, .ref b), (1, .ref (ad 0)), (2, .ref (ad2 0)), (3, .ref o), (4, .int i)] → W p l e room_1 s m args below meth c H locs (cells + 1) (slots + 6) Q (F0 m 574 ls [])) : W p l e room_1 s m args below meth c H locs cells slots Q (F0 m 363 ls []) := by
  have C0 := C1
  obtain ⟨hx, hb, -, -, -, hown, hts, hK1, -, -⟩ := C0
  refine lv_aload_n hx hb d_LW_law_363 rfl (lv_at hl 1 rfl) ?_
  refine lv_aload_n hx hb d_LW_law_364 rfl (lv_at hl 0 rfl) ?_
  refine lv_iload hx hb d_LW_law_365 (lv_at hl 4 rfl) ?_
  refine lv_iconst (v := (1:Int32)) hx hb d_LW_law_367 (by decide) ?_
  refine lv_iadd hx hb d_LW_law_368 ?_
  refine va_sld hx hb hX hbl hbA hS hi1 d_LW_law_369 ?_
  refine lv_if_eq (tgt := 377) hx hb d_LW_law_370 (by decide) (fun _ => ?_) (fun z => absurd hb0 z)
  refine lv_iconst (v := (0:Int32)) hx hb d_LW_law_377 (by decide) ?_
  refine lv_aload_n hx hb d_LW_law_378 rfl (lv_at hl 0 rfl) ?_
  refine lv_iload hx hb d_LW_law_379 (lv_at hl 4 rfl) ?_
  refine lv_iconst (v := (2:Int32)) hx hb d_LW_law_381 (by decide) ?_
  refine lv_iadd hx hb d_LW_law_382 ?_
  refine va_sld hx hb hX hbl hbA hS hi2 d_LW_law_383 ?_
  refine lv_aload_n hx hb d_LW_law_384 rfl (lv_at hl 0 rfl) ?_
  refine lv_iload hx hb d_LW_law_385 (lv_at hl 4 rfl) ?_
  refine lv_iconst (v := (3:Int32)) hx hb d_LW_law_387 (by decide) ?_
  refine lv_iadd hx hb d_LW_law_388 ?_
  refine va_sld hx hb hX hbl hbA hS hi3 d_LW_law_389 ?_
  refine lv_aload_n hx hb d_LW_law_390 rfl (lv_at hl 3 rfl) ?_
  refine o_SW (rest := []) (st1 := [.int (2:Int32)]) (As := [.ref (ad 0), .int (0:Int32), .int (xs (i + (2:Int32)).toNatClampNeg), .int (xs (i + (3:Int32)).toNatClampNeg), .ref o]) hE.1 C1 (lh_value_1 hE hT l hfl (0:Int32) (xs (i + (2:Int32)).toNatClampNeg) (xs (i + (3:Int32)).toNatClampNeg) Sj T0 T1 Rd Pg Pt Mk Lk Ck Jd Ld Pr rt v f h) hK1 hP1 (o_Dl (hDD f rt Sj T0 T1 Rd Pg Pt Mk Lk Ck Jd Ld Pr rt2 Ni Np No Nx Nf Na Nh Nq Nj M0 M1)) hS hl.1 k_7_34 k_7_35 k_1_0 kw_LW_value hs_LW_value rfl rfl ⟨(Nat.le_of_ble_eq_true rfl), (Nat.le_of_ble_eq_true rfl)⟩ rfl (Nat.le_of_ble_eq_true rfl) ⟨hcs, hss⟩ rfl d_LW_law_391 (fun H1 locs1 hQ1 hk hS1 => ?_)
  have hP2 := o_keep2 (hDD f rt Sj T0 T1 Rd Pg Pt Mk Lk Ck Jd Ld Pr rt2 Ni Np No Nx Nf Na Nh Nq Nj M0 M1) hP2 hk
  have hP1 := hQ1
  have hS := hS1
  refine lv_istore (lv' := [(5, .int (2:Int32)), (0, .ref b), (1, .ref (ad 0)), (2, .ref (ad2 0)), (3, .ref o), (4, .int i)]) hx hb d_LW_law_394 hl (by decide) rfl (fun ls hl => ?_)
  refine lv_aload_n hx hb d_LW_law_396 rfl (lv_at hl 3 rfl) ?_
  refine lv_aload_n hx hb d_LW_law_397 rfl (lv_at hl 1 rfl) ?_
  refine lv_iload hx hb d_LW_law_398 (lv_at hl 5 rfl) ?_
  refine lv_iconst (v := (1:Int32)) hx hb d_LW_law_400 (by decide) ?_
  refine lv_iadd hx hb d_LW_law_401 ?_
  refine va_sld hx hb hX hbl hbA hS hi1 d_LW_law_402 ?_
  refine lv_if_eq (tgt := 410) hx hb d_LW_law_403 (by decide) (fun _ => ?_) (fun z => absurd hb0 z)
  refine lv_iconst (v := (0:Int32)) hx hb d_LW_law_410 (by decide) ?_
  refine lv_aload_n hx hb d_LW_law_411 rfl (lv_at hl 1 rfl) ?_
  refine lv_iload hx hb d_LW_law_412 (lv_at hl 5 rfl) ?_
  refine lv_iconst (v := (2:Int32)) hx hb d_LW_law_414 (by decide) ?_
  refine lv_iadd hx hb d_LW_law_415 ?_
  refine va_sld hx hb hX hbl hbA hS hi2 d_LW_law_416 ?_
  refine lv_aload_n hx hb d_LW_law_417 rfl (lv_at hl 1 rfl) ?_
  refine lv_iload hx hb d_LW_law_418 (lv_at hl 5 rfl) ?_
  refine lv_iconst (v := (3:Int32)) hx hb d_LW_law_420 (by decide) ?_
  refine lv_iadd hx hb d_LW_law_421 ?_
  refine va_sld hx hb hX hbl hbA hS hi3 d_LW_law_422 ?_
  refine o_VF (rest := []) (st1 := [.int v2]) (As := [.int (0:Int32), .int (xs (i + (2:Int32)).toNatClampNeg), .int (xs (i + (3:Int32)).toNatClampNeg)]) (w1 := (m_cw ad2 ca2 ky ty rt2 Ni' Np No Nx Nf Na Nh Nq Nj M0 M1)) hE.1 C2 (e_MM_value hE hKy l (0:Int32) (xs (i + (2:Int32)).toNatClampNeg) (xs (i + (3:Int32)).toNatClampNeg) M0 M1 Ni Np No Nx Nf Na Nh Nq Nj rt2 h2) hP2 (o_Dr (hDD f rt Sj T0 T1 Rd Pg Pt Mk Lk Ck Jd Ld Pr rt2 Ni Np No Nx Nf Na Nh Nq Nj M0 M1)) hS hl.1 rfl mw_0 k_10_84 k_10_85 k_10_86 k_1_12 k_10_87 hv_MM_value rfl rfl ⟨(Nat.le_of_ble_eq_true rfl), (Nat.le_of_ble_eq_true rfl)⟩ rfl (Nat.le_of_ble_eq_true rfl) ⟨by omega, by omega⟩ rfl d_LW_law_423 (fun H1 locs1 hQ2 hk hS1 => ?_)
  have hP1 := o_keep1 (hDD f rt Sj T0 T1 Rd Pg Pt Mk Lk Ck Jd Ld Pr rt2 Ni Np No Nx Nf Na Nh Nq Nj M0 M1) hP1 hk
  have hP2 := hQ2
  have hS := hS1
  refine lv_istore (lv' := [(6, .int v2), (5, .int (2:Int32)), (0, .ref b), (1, .ref (ad 0)), (2, .ref (ad2 0)), (3, .ref o), (4, .int i)]) hx hb d_LW_law_426 hl (by decide) rfl (fun ls hl => ?_)
  refine lv_goto (tgt := 574) hx hb d_LW_law_428 (by decide) ?_
  exact kk _ _ _ hP1 hP2 hS (lv_sub hl [2, 3, 4, 5, 6] rfl)
set_option maxHeartbeats 4000000 in
set_option maxRecDepth 100000 in
theorem la_value_1_b1 {E : (Nat → Prop) → State → Heap → Prop} {p : Program} {l : Launch} {e : Env} {s : State} {m : MethodId} {args : Array Value} {below : List Frame} {meth : Method} {c : Code} {D1 D2 : va_G} {ad ad2 kd sd vd xd : Nat → Nat} {ca ca2 : Nat → ClassId} {ky ty : Nat → Option Nat} {cO : ClassId} {o b L : Nat} {xs : Nat → Int32} {A : Nat → Prop} {Q : State → Prop} {H : Heap} {locs : List Loc} {cells slots : Nat} {ls : Array Slot} {i : Int32} (hE : o_EK E kd sd vd xd) (hKy : m_KY ky ty sd) (hT : o_ET E) (hfl : l.flags = pinnedFlags ++ [noTraceFlag]) (C1 : o_Cx E p s m args meth c D1 o_cls ((cO, .long) :: o_tys ca) "SchemaJudgeLaw" code (some .boolean) 7 (.tt) A) (C1a : o_Cx E p s m args meth c D1 o_cls (o_tys ca) "SchemaJudgeLaw" code (some .boolean) 7 (.tt) A) (C2 : o_Cx E p s m args meth c D2 m_cls (m_tys ca2) "SchemaJudgeLaw" code (some .boolean) 7 (.tt) A) (hX : va_X b L xs s s.heap) (hbl : b < s.heap.size) (hbA : ¬ A b) (hDD : ∀ (f : Nat → Int64) (rt : Nat) (Sj : SSJ) (T0 : STx) (T1 : STx) (Rd : SRd) (Pg : SPg) (Pt : SPt) (Mk : SMk) (Lk : SLk) (Ck : SCk) (Jd : SJd) (Ld : SLd) (Pr : SPr) (rt2 : Nat) (Ni : SNI) (Np : SNP) (No : SNO) (Nx : SNX) (Nf : SNF) (Na : SNA) (Nh : SNH) (Nq : SNQ) (Nj : SNJ) (M0 : SMT) (M1 : SMT), va_D A (((o, .inl (cO, 1, .inr (.inl f))) :: o_cw ad ca rt Sj T0 T1 Rd Pg Pt Mk Lk Ck Jd Ld Pr) ++ m_cw ad2 ca2 ky ty rt2 Ni Np No Nx Nf Na Nh Nq Nj M0 M1)) (hi1 : vp_in (i + (1:Int32)) L) (hi2 : vp_in (i + (2:Int32)) L) (hi3 : vp_in (i + (3:Int32)) L) (hi4 : vp_in (i + (4:Int32)) L) (hi5 : vp_in (i + (5:Int32)) L) (hcs : cells + 1 ≤ room_1.cells) (hss : slots + 6 ≤ room_1.slots) (Sj : SSJ) (T0 : STx) (T1 : STx) (Rd : SRd) (Pg : SPg) (Pt : SPt) (Mk : SMk) (Lk : SLk) (Ck : SCk) (Jd : SJd) (Ld : SLd) (Pr : SPr) (rt : Nat) (rt2 : Nat) (Ni : SNI) (Np : SNP) (No : SNO) (Nx : SNX) (Nf : SNF) (Na : SNA) (Nh : SNH) (Nq : SNQ) (Nj : SNJ) (M0 : SMT) (M1 : SMT) (f : Nat → Int64) (v : Int32) (v2 : Int32) (Ni' : SNI) (h : m_SJ_value (1:Int32) (xs (i + (2:Int32)).toNatClampNeg) (xs (i + (3:Int32)).toNatClampNeg) T0 T1 = some (1, v)) (hb0 : ¬ (xs (i + (1:Int32)).toNatClampNeg) = 0) (h2 : m_MM_value (1:Int32) (xs (i + (2:Int32)).toNatClampNeg) (xs (i + (3:Int32)).toNatClampNeg) M0 M1 Ni = some (v2, Ni')) (hP1 : va_P D1 o_cls ((o, .inl (cO, 1, .inr (.inl f))) :: o_cw ad ca rt Sj T0 T1 Rd Pg Pt Mk Lk Ck Jd Ld Pr) H) (hP2 : va_P D2 m_cls (m_cw ad2 ca2 ky ty rt2 Ni Np No Nx Nf Na Nh Nq Nj M0 M1) H) (hS : va_S A s.heap H locs) (hl : lv_has ls 7 [(0, .ref b), (1, .ref (ad 0)), (2, .ref (ad2 0)), (3, .ref o), (4, .int i)]) (kk : ∀ (H : Heap) (locs : List Loc) (ls : Array Slot), va_P D1 o_cls ((o, .inl (cO, 1, .inr (.inl f))) :: o_cw ad ca rt Sj T0 T1 Rd Pg Pt Mk Lk Ck Jd Ld Pr) H → va_P D2 m_cls (m_cw ad2 ca2 ky ty rt2 Ni' Np No Nx Nf Na Nh Nq Nj M0 M1) H → va_S A s.heap H locs → lv_has ls 7 [(0, .ref b), (1, .ref (ad 0)), (2, .ref (ad2 0)), (3, .ref o), (4, .int i)] → W p l e room_1 s m args below meth c H locs (cells + 1) (slots + 6) Q (F0 m 574 ls [])) : W p l e room_1 s m args below meth c H locs cells slots Q (F0 m 363 ls []) := by
  have C0 := C1
  obtain ⟨hx, hb, -, -, -, hown, hts, hK1, -, -⟩ := C0
  refine lv_aload_n hx hb d_LW_law_363 rfl (lv_at hl 1 rfl) ?_
  refine lv_aload_n hx hb d_LW_law_364 rfl (lv_at hl 0 rfl) ?_
  refine lv_iload hx hb d_LW_law_365 (lv_at hl 4 rfl) ?_
  refine lv_iconst (v := (1:Int32)) hx hb d_LW_law_367 (by decide) ?_
  refine lv_iadd hx hb d_LW_law_368 ?_
  refine va_sld hx hb hX hbl hbA hS hi1 d_LW_law_369 ?_
  refine lv_if_eq (tgt := 377) hx hb d_LW_law_370 (by decide) (fun z => absurd z hb0) (fun _ => ?_)
  refine lv_iconst (v := (1:Int32)) hx hb d_LW_law_373 (by decide) ?_
  refine lv_goto (tgt := 378) hx hb d_LW_law_374 (by decide) ?_
  refine lv_aload_n hx hb d_LW_law_378 rfl (lv_at hl 0 rfl) ?_
  refine lv_iload hx hb d_LW_law_379 (lv_at hl 4 rfl) ?_
  refine lv_iconst (v := (2:Int32)) hx hb d_LW_law_381 (by decide) ?_
  refine lv_iadd hx hb d_LW_law_382 ?_
  refine va_sld hx hb hX hbl hbA hS hi2 d_LW_law_383 ?_
  refine lv_aload_n hx hb d_LW_law_384 rfl (lv_at hl 0 rfl) ?_
  refine lv_iload hx hb d_LW_law_385 (lv_at hl 4 rfl) ?_
  refine lv_iconst (v := (3:Int32)) hx hb d_LW_law_387 (by decide) ?_
  refine lv_iadd hx hb d_LW_law_388 ?_
  refine va_sld hx hb hX hbl hbA hS hi3 d_LW_law_389 ?_
  refine lv_aload_n hx hb d_LW_law_390 rfl (lv_at hl 3 rfl) ?_
  refine o_SW (rest := []) (st1 := [.int (2:Int32)]) (As := [.ref (ad 0), .int (1:Int32), .int (xs (i + (2:Int32)).toNatClampNeg), .int (xs (i + (3:Int32)).toNatClampNeg), .ref o]) hE.1 C1 (lh_value_1 hE hT l hfl (1:Int32) (xs (i + (2:Int32)).toNatClampNeg) (xs (i + (3:Int32)).toNatClampNeg) Sj T0 T1 Rd Pg Pt Mk Lk Ck Jd Ld Pr rt v f h) hK1 hP1 (o_Dl (hDD f rt Sj T0 T1 Rd Pg Pt Mk Lk Ck Jd Ld Pr rt2 Ni Np No Nx Nf Na Nh Nq Nj M0 M1)) hS hl.1 k_7_34 k_7_35 k_1_0 kw_LW_value hs_LW_value rfl rfl ⟨(Nat.le_of_ble_eq_true rfl), (Nat.le_of_ble_eq_true rfl)⟩ rfl (Nat.le_of_ble_eq_true rfl) ⟨hcs, hss⟩ rfl d_LW_law_391 (fun H1 locs1 hQ1 hk hS1 => ?_)
  have hP2 := o_keep2 (hDD f rt Sj T0 T1 Rd Pg Pt Mk Lk Ck Jd Ld Pr rt2 Ni Np No Nx Nf Na Nh Nq Nj M0 M1) hP2 hk
  have hP1 := hQ1
  have hS := hS1
  refine lv_istore (lv' := [(5, .int (2:Int32)), (0, .ref b), (1, .ref (ad 0)), (2, .ref (ad2 0)), (3, .ref o), (4, .int i)]) hx hb d_LW_law_394 hl (by decide) rfl (fun ls hl => ?_)
  refine lv_aload_n hx hb d_LW_law_396 rfl (lv_at hl 3 rfl) ?_
  refine lv_aload_n hx hb d_LW_law_397 rfl (lv_at hl 1 rfl) ?_
  refine lv_iload hx hb d_LW_law_398 (lv_at hl 5 rfl) ?_
  refine lv_iconst (v := (1:Int32)) hx hb d_LW_law_400 (by decide) ?_
  refine lv_iadd hx hb d_LW_law_401 ?_
  refine va_sld hx hb hX hbl hbA hS hi1 d_LW_law_402 ?_
  refine lv_if_eq (tgt := 410) hx hb d_LW_law_403 (by decide) (fun z => absurd z hb0) (fun _ => ?_)
  refine lv_iconst (v := (1:Int32)) hx hb d_LW_law_406 (by decide) ?_
  refine lv_goto (tgt := 411) hx hb d_LW_law_407 (by decide) ?_
  refine lv_aload_n hx hb d_LW_law_411 rfl (lv_at hl 1 rfl) ?_
  refine lv_iload hx hb d_LW_law_412 (lv_at hl 5 rfl) ?_
  refine lv_iconst (v := (2:Int32)) hx hb d_LW_law_414 (by decide) ?_
  refine lv_iadd hx hb d_LW_law_415 ?_
  refine va_sld hx hb hX hbl hbA hS hi2 d_LW_law_416 ?_
  refine lv_aload_n hx hb d_LW_law_417 rfl (lv_at hl 1 rfl) ?_
  refine lv_iload hx hb d_LW_law_418 (lv_at hl 5 rfl) ?_
  refine lv_iconst (v := (3:Int32)) hx hb d_LW_law_420 (by decide) ?_
  refine lv_iadd hx hb d_LW_law_421 ?_
  refine va_sld hx hb hX hbl hbA hS hi3 d_LW_law_422 ?_
  refine o_VF (rest := []) (st1 := [.int v2]) (As := [.int (1:Int32), .int (xs (i + (2:Int32)).toNatClampNeg), .int (xs (i + (3:Int32)).toNatClampNeg)]) (w1 := (m_cw ad2 ca2 ky ty rt2 Ni' Np No Nx Nf Na Nh Nq Nj M0 M1)) hE.1 C2 (e_MM_value hE hKy l (1:Int32) (xs (i + (2:Int32)).toNatClampNeg) (xs (i + (3:Int32)).toNatClampNeg) M0 M1 Ni Np No Nx Nf Na Nh Nq Nj rt2 h2) hP2 (o_Dr (hDD f rt Sj T0 T1 Rd Pg Pt Mk Lk Ck Jd Ld Pr rt2 Ni Np No Nx Nf Na Nh Nq Nj M0 M1)) hS hl.1 rfl mw_0 k_10_84 k_10_85 k_10_86 k_1_12 k_10_87 hv_MM_value rfl rfl ⟨(Nat.le_of_ble_eq_true rfl), (Nat.le_of_ble_eq_true rfl)⟩ rfl (Nat.le_of_ble_eq_true rfl) ⟨by omega, by omega⟩ rfl d_LW_law_423 (fun H1 locs1 hQ2 hk hS1 => ?_)
  have hP1 := o_keep1 (hDD f rt Sj T0 T1 Rd Pg Pt Mk Lk Ck Jd Ld Pr rt2 Ni Np No Nx Nf Na Nh Nq Nj M0 M1) hP1 hk
  have hP2 := hQ2
  have hS := hS1
  refine lv_istore (lv' := [(6, .int v2), (5, .int (2:Int32)), (0, .ref b), (1, .ref (ad 0)), (2, .ref (ad2 0)), (3, .ref o), (4, .int i)]) hx hb d_LW_law_426 hl (by decide) rfl (fun ls hl => ?_)
  refine lv_goto (tgt := 574) hx hb d_LW_law_428 (by decide) ?_
  exact kk _ _ _ hP1 hP2 hS (lv_sub hl [2, 3, 4, 5, 6] rfl)
set_option maxHeartbeats 4000000 in
set_option maxRecDepth 100000 in
theorem la_value_2_b0 {E : (Nat → Prop) → State → Heap → Prop} {p : Program} {l : Launch} {e : Env} {s : State} {m : MethodId} {args : Array Value} {below : List Frame} {meth : Method} {c : Code} {D1 D2 : va_G} {ad ad2 kd sd vd xd : Nat → Nat} {ca ca2 : Nat → ClassId} {ky ty : Nat → Option Nat} {cO : ClassId} {o b L : Nat} {xs : Nat → Int32} {A : Nat → Prop} {Q : State → Prop} {H : Heap} {locs : List Loc} {cells slots : Nat} {ls : Array Slot} {i : Int32} (hE : o_EK E kd sd vd xd) (hKy : m_KY ky ty sd) (hT : o_ET E) (hfl : l.flags = pinnedFlags ++ [noTraceFlag]) (C1 : o_Cx E p s m args meth c D1 o_cls ((cO, .long) :: o_tys ca) "SchemaJudgeLaw" code (some .boolean) 7 (.tt) A) (C1a : o_Cx E p s m args meth c D1 o_cls (o_tys ca) "SchemaJudgeLaw" code (some .boolean) 7 (.tt) A) (C2 : o_Cx E p s m args meth c D2 m_cls (m_tys ca2) "SchemaJudgeLaw" code (some .boolean) 7 (.tt) A) (hX : va_X b L xs s s.heap) (hbl : b < s.heap.size) (hbA : ¬ A b) (hDD : ∀ (f : Nat → Int64) (rt : Nat) (Sj : SSJ) (T0 : STx) (T1 : STx) (Rd : SRd) (Pg : SPg) (Pt : SPt) (Mk : SMk) (Lk : SLk) (Ck : SCk) (Jd : SJd) (Ld : SLd) (Pr : SPr) (rt2 : Nat) (Ni : SNI) (Np : SNP) (No : SNO) (Nx : SNX) (Nf : SNF) (Na : SNA) (Nh : SNH) (Nq : SNQ) (Nj : SNJ) (M0 : SMT) (M1 : SMT), va_D A (((o, .inl (cO, 1, .inr (.inl f))) :: o_cw ad ca rt Sj T0 T1 Rd Pg Pt Mk Lk Ck Jd Ld Pr) ++ m_cw ad2 ca2 ky ty rt2 Ni Np No Nx Nf Na Nh Nq Nj M0 M1)) (hi1 : vp_in (i + (1:Int32)) L) (hi2 : vp_in (i + (2:Int32)) L) (hi3 : vp_in (i + (3:Int32)) L) (hi4 : vp_in (i + (4:Int32)) L) (hi5 : vp_in (i + (5:Int32)) L) (hcs : cells + 1 ≤ room_1.cells) (hss : slots + 6 ≤ room_1.slots) (Sj : SSJ) (T0 : STx) (T1 : STx) (Rd : SRd) (Pg : SPg) (Pt : SPt) (Mk : SMk) (Lk : SLk) (Ck : SCk) (Jd : SJd) (Ld : SLd) (Pr : SPr) (rt : Nat) (rt2 : Nat) (Ni : SNI) (Np : SNP) (No : SNO) (Nx : SNX) (Nf : SNF) (Na : SNA) (Nh : SNH) (Nq : SNQ) (Nj : SNJ) (M0 : SMT) (M1 : SMT) (f : Nat → Int64) (v : Int32) (v2 : Int32) (Ni' : SNI) (h : m_SJ_value (0:Int32) (xs (i + (2:Int32)).toNatClampNeg) (xs (i + (3:Int32)).toNatClampNeg) T0 T1 = some (2, v)) (hb0 : (xs (i + (1:Int32)).toNatClampNeg) = 0) (h2 : m_MM_value (0:Int32) (xs (i + (2:Int32)).toNatClampNeg) (xs (i + (3:Int32)).toNatClampNeg) M0 M1 Ni = some (v2, Ni')) (hP1 : va_P D1 o_cls ((o, .inl (cO, 1, .inr (.inl f))) :: o_cw ad ca rt Sj T0 T1 Rd Pg Pt Mk Lk Ck Jd Ld Pr) H) (hP2 : va_P D2 m_cls (m_cw ad2 ca2 ky ty rt2 Ni Np No Nx Nf Na Nh Nq Nj M0 M1) H) (hS : va_S A s.heap H locs) (hl : lv_has ls 7 [(0, .ref b), (1, .ref (ad 0)), (2, .ref (ad2 0)), (3, .ref o), (4, .int i)]) (kk : ∀ (H : Heap) (locs : List Loc) (ls : Array Slot), va_P D1 o_cls ((o, .inl (cO, 1, .inr (.inl f))) :: o_cw ad ca rt Sj T0 T1 Rd Pg Pt Mk Lk Ck Jd Ld Pr) H → va_P D2 m_cls (m_cw ad2 ca2 ky ty rt2 Ni' Np No Nx Nf Na Nh Nq Nj M0 M1) H → va_S A s.heap H locs → lv_has ls 7 [(0, .ref b), (1, .ref (ad 0)), (2, .ref (ad2 0)), (3, .ref o), (4, .int i)] → W p l e room_1 s m args below meth c H locs (cells + 1) (slots + 6) Q (F0 m 574 ls [])) : W p l e room_1 s m args below meth c H locs cells slots Q (F0 m 363 ls []) := by
  have C0 := C1
  obtain ⟨hx, hb, -, -, -, hown, hts, hK1, -, -⟩ := C0
  refine lv_aload_n hx hb d_LW_law_363 rfl (lv_at hl 1 rfl) ?_
  refine lv_aload_n hx hb d_LW_law_364 rfl (lv_at hl 0 rfl) ?_
  refine lv_iload hx hb d_LW_law_365 (lv_at hl 4 rfl) ?_
  refine lv_iconst (v := (1:Int32)) hx hb d_LW_law_367 (by decide) ?_
  refine lv_iadd hx hb d_LW_law_368 ?_
  refine va_sld hx hb hX hbl hbA hS hi1 d_LW_law_369 ?_
  refine lv_if_eq (tgt := 377) hx hb d_LW_law_370 (by decide) (fun _ => ?_) (fun z => absurd hb0 z)
  refine lv_iconst (v := (0:Int32)) hx hb d_LW_law_377 (by decide) ?_
  refine lv_aload_n hx hb d_LW_law_378 rfl (lv_at hl 0 rfl) ?_
  refine lv_iload hx hb d_LW_law_379 (lv_at hl 4 rfl) ?_
  refine lv_iconst (v := (2:Int32)) hx hb d_LW_law_381 (by decide) ?_
  refine lv_iadd hx hb d_LW_law_382 ?_
  refine va_sld hx hb hX hbl hbA hS hi2 d_LW_law_383 ?_
  refine lv_aload_n hx hb d_LW_law_384 rfl (lv_at hl 0 rfl) ?_
  refine lv_iload hx hb d_LW_law_385 (lv_at hl 4 rfl) ?_
  refine lv_iconst (v := (3:Int32)) hx hb d_LW_law_387 (by decide) ?_
  refine lv_iadd hx hb d_LW_law_388 ?_
  refine va_sld hx hb hX hbl hbA hS hi3 d_LW_law_389 ?_
  refine lv_aload_n hx hb d_LW_law_390 rfl (lv_at hl 3 rfl) ?_
  refine o_SW (rest := []) (st1 := [.int (1:Int32)]) (As := [.ref (ad 0), .int (0:Int32), .int (xs (i + (2:Int32)).toNatClampNeg), .int (xs (i + (3:Int32)).toNatClampNeg), .ref o]) hE.1 C1 (lh_value_2 hE hT l hfl (0:Int32) (xs (i + (2:Int32)).toNatClampNeg) (xs (i + (3:Int32)).toNatClampNeg) Sj T0 T1 Rd Pg Pt Mk Lk Ck Jd Ld Pr rt v f h) hK1 hP1 (o_Dl (hDD f rt Sj T0 T1 Rd Pg Pt Mk Lk Ck Jd Ld Pr rt2 Ni Np No Nx Nf Na Nh Nq Nj M0 M1)) hS hl.1 k_7_34 k_7_35 k_1_0 kw_LW_value hs_LW_value rfl rfl ⟨(Nat.le_of_ble_eq_true rfl), (Nat.le_of_ble_eq_true rfl)⟩ rfl (Nat.le_of_ble_eq_true rfl) ⟨hcs, hss⟩ rfl d_LW_law_391 (fun H1 locs1 hQ1 hk hS1 => ?_)
  have hP2 := o_keep2 (hDD f rt Sj T0 T1 Rd Pg Pt Mk Lk Ck Jd Ld Pr rt2 Ni Np No Nx Nf Na Nh Nq Nj M0 M1) hP2 hk
  have hP1 := hQ1
  have hS := hS1
  refine lv_istore (lv' := [(5, .int (1:Int32)), (0, .ref b), (1, .ref (ad 0)), (2, .ref (ad2 0)), (3, .ref o), (4, .int i)]) hx hb d_LW_law_394 hl (by decide) rfl (fun ls hl => ?_)
  refine lv_aload_n hx hb d_LW_law_396 rfl (lv_at hl 3 rfl) ?_
  refine lv_aload_n hx hb d_LW_law_397 rfl (lv_at hl 1 rfl) ?_
  refine lv_iload hx hb d_LW_law_398 (lv_at hl 5 rfl) ?_
  refine lv_iconst (v := (1:Int32)) hx hb d_LW_law_400 (by decide) ?_
  refine lv_iadd hx hb d_LW_law_401 ?_
  refine va_sld hx hb hX hbl hbA hS hi1 d_LW_law_402 ?_
  refine lv_if_eq (tgt := 410) hx hb d_LW_law_403 (by decide) (fun _ => ?_) (fun z => absurd hb0 z)
  refine lv_iconst (v := (0:Int32)) hx hb d_LW_law_410 (by decide) ?_
  refine lv_aload_n hx hb d_LW_law_411 rfl (lv_at hl 1 rfl) ?_
  refine lv_iload hx hb d_LW_law_412 (lv_at hl 5 rfl) ?_
  refine lv_iconst (v := (2:Int32)) hx hb d_LW_law_414 (by decide) ?_
  refine lv_iadd hx hb d_LW_law_415 ?_
  refine va_sld hx hb hX hbl hbA hS hi2 d_LW_law_416 ?_
  refine lv_aload_n hx hb d_LW_law_417 rfl (lv_at hl 1 rfl) ?_
  refine lv_iload hx hb d_LW_law_418 (lv_at hl 5 rfl) ?_
  refine lv_iconst (v := (3:Int32)) hx hb d_LW_law_420 (by decide) ?_
  refine lv_iadd hx hb d_LW_law_421 ?_
  refine va_sld hx hb hX hbl hbA hS hi3 d_LW_law_422 ?_
  refine o_VF (rest := []) (st1 := [.int v2]) (As := [.int (0:Int32), .int (xs (i + (2:Int32)).toNatClampNeg), .int (xs (i + (3:Int32)).toNatClampNeg)]) (w1 := (m_cw ad2 ca2 ky ty rt2 Ni' Np No Nx Nf Na Nh Nq Nj M0 M1)) hE.1 C2 (e_MM_value hE hKy l (0:Int32) (xs (i + (2:Int32)).toNatClampNeg) (xs (i + (3:Int32)).toNatClampNeg) M0 M1 Ni Np No Nx Nf Na Nh Nq Nj rt2 h2) hP2 (o_Dr (hDD f rt Sj T0 T1 Rd Pg Pt Mk Lk Ck Jd Ld Pr rt2 Ni Np No Nx Nf Na Nh Nq Nj M0 M1)) hS hl.1 rfl mw_0 k_10_84 k_10_85 k_10_86 k_1_12 k_10_87 hv_MM_value rfl rfl ⟨(Nat.le_of_ble_eq_true rfl), (Nat.le_of_ble_eq_true rfl)⟩ rfl (Nat.le_of_ble_eq_true rfl) ⟨by omega, by omega⟩ rfl d_LW_law_423 (fun H1 locs1 hQ2 hk hS1 => ?_)
  have hP1 := o_keep1 (hDD f rt Sj T0 T1 Rd Pg Pt Mk Lk Ck Jd Ld Pr rt2 Ni Np No Nx Nf Na Nh Nq Nj M0 M1) hP1 hk
  have hP2 := hQ2
  have hS := hS1
  refine lv_istore (lv' := [(6, .int v2), (5, .int (1:Int32)), (0, .ref b), (1, .ref (ad 0)), (2, .ref (ad2 0)), (3, .ref o), (4, .int i)]) hx hb d_LW_law_426 hl (by decide) rfl (fun ls hl => ?_)
  refine lv_goto (tgt := 574) hx hb d_LW_law_428 (by decide) ?_
  exact kk _ _ _ hP1 hP2 hS (lv_sub hl [2, 3, 4, 5, 6] rfl)
set_option maxHeartbeats 4000000 in
set_option maxRecDepth 100000 in
theorem la_value_2_b1 {E : (Nat → Prop) → State → Heap → Prop} {p : Program} {l : Launch} {e : Env} {s : State} {m : MethodId} {args : Array Value} {below : List Frame} {meth : Method} {c : Code} {D1 D2 : va_G} {ad ad2 kd sd vd xd : Nat → Nat} {ca ca2 : Nat → ClassId} {ky ty : Nat → Option Nat} {cO : ClassId} {o b L : Nat} {xs : Nat → Int32} {A : Nat → Prop} {Q : State → Prop} {H : Heap} {locs : List Loc} {cells slots : Nat} {ls : Array Slot} {i : Int32} (hE : o_EK E kd sd vd xd) (hKy : m_KY ky ty sd) (hT : o_ET E) (hfl : l.flags = pinnedFlags ++ [noTraceFlag]) (C1 : o_Cx E p s m args meth c D1 o_cls ((cO, .long) :: o_tys ca) "SchemaJudgeLaw" code (some .boolean) 7 (.tt) A) (C1a : o_Cx E p s m args meth c D1 o_cls (o_tys ca) "SchemaJudgeLaw" code (some .boolean) 7 (.tt) A) (C2 : o_Cx E p s m args meth c D2 m_cls (m_tys ca2) "SchemaJudgeLaw" code (some .boolean) 7 (.tt) A) (hX : va_X b L xs s s.heap) (hbl : b < s.heap.size) (hbA : ¬ A b) (hDD : ∀ (f : Nat → Int64) (rt : Nat) (Sj : SSJ) (T0 : STx) (T1 : STx) (Rd : SRd) (Pg : SPg) (Pt : SPt) (Mk : SMk) (Lk : SLk) (Ck : SCk) (Jd : SJd) (Ld : SLd) (Pr : SPr) (rt2 : Nat) (Ni : SNI) (Np : SNP) (No : SNO) (Nx : SNX) (Nf : SNF) (Na : SNA) (Nh : SNH) (Nq : SNQ) (Nj : SNJ) (M0 : SMT) (M1 : SMT), va_D A (((o, .inl (cO, 1, .inr (.inl f))) :: o_cw ad ca rt Sj T0 T1 Rd Pg Pt Mk Lk Ck Jd Ld Pr) ++ m_cw ad2 ca2 ky ty rt2 Ni Np No Nx Nf Na Nh Nq Nj M0 M1)) (hi1 : vp_in (i + (1:Int32)) L) (hi2 : vp_in (i + (2:Int32)) L) (hi3 : vp_in (i + (3:Int32)) L) (hi4 : vp_in (i + (4:Int32)) L) (hi5 : vp_in (i + (5:Int32)) L) (hcs : cells + 1 ≤ room_1.cells) (hss : slots + 6 ≤ room_1.slots) (Sj : SSJ) (T0 : STx) (T1 : STx) (Rd : SRd) (Pg : SPg) (Pt : SPt) (Mk : SMk) (Lk : SLk) (Ck : SCk) (Jd : SJd) (Ld : SLd) (Pr : SPr) (rt : Nat) (rt2 : Nat) (Ni : SNI) (Np : SNP) (No : SNO) (Nx : SNX) (Nf : SNF) (Na : SNA) (Nh : SNH) (Nq : SNQ) (Nj : SNJ) (M0 : SMT) (M1 : SMT) (f : Nat → Int64) (v : Int32) (v2 : Int32) (Ni' : SNI) (h : m_SJ_value (1:Int32) (xs (i + (2:Int32)).toNatClampNeg) (xs (i + (3:Int32)).toNatClampNeg) T0 T1 = some (2, v)) (hb0 : ¬ (xs (i + (1:Int32)).toNatClampNeg) = 0) (h2 : m_MM_value (1:Int32) (xs (i + (2:Int32)).toNatClampNeg) (xs (i + (3:Int32)).toNatClampNeg) M0 M1 Ni = some (v2, Ni')) (hP1 : va_P D1 o_cls ((o, .inl (cO, 1, .inr (.inl f))) :: o_cw ad ca rt Sj T0 T1 Rd Pg Pt Mk Lk Ck Jd Ld Pr) H) (hP2 : va_P D2 m_cls (m_cw ad2 ca2 ky ty rt2 Ni Np No Nx Nf Na Nh Nq Nj M0 M1) H) (hS : va_S A s.heap H locs) (hl : lv_has ls 7 [(0, .ref b), (1, .ref (ad 0)), (2, .ref (ad2 0)), (3, .ref o), (4, .int i)]) (kk : ∀ (H : Heap) (locs : List Loc) (ls : Array Slot), va_P D1 o_cls ((o, .inl (cO, 1, .inr (.inl f))) :: o_cw ad ca rt Sj T0 T1 Rd Pg Pt Mk Lk Ck Jd Ld Pr) H → va_P D2 m_cls (m_cw ad2 ca2 ky ty rt2 Ni' Np No Nx Nf Na Nh Nq Nj M0 M1) H → va_S A s.heap H locs → lv_has ls 7 [(0, .ref b), (1, .ref (ad 0)), (2, .ref (ad2 0)), (3, .ref o), (4, .int i)] → W p l e room_1 s m args below meth c H locs (cells + 1) (slots + 6) Q (F0 m 574 ls [])) : W p l e room_1 s m args below meth c H locs cells slots Q (F0 m 363 ls []) := by
  have C0 := C1
  obtain ⟨hx, hb, -, -, -, hown, hts, hK1, -, -⟩ := C0
  refine lv_aload_n hx hb d_LW_law_363 rfl (lv_at hl 1 rfl) ?_
  refine lv_aload_n hx hb d_LW_law_364 rfl (lv_at hl 0 rfl) ?_
  refine lv_iload hx hb d_LW_law_365 (lv_at hl 4 rfl) ?_
  refine lv_iconst (v := (1:Int32)) hx hb d_LW_law_367 (by decide) ?_
  refine lv_iadd hx hb d_LW_law_368 ?_
  refine va_sld hx hb hX hbl hbA hS hi1 d_LW_law_369 ?_
  refine lv_if_eq (tgt := 377) hx hb d_LW_law_370 (by decide) (fun z => absurd z hb0) (fun _ => ?_)
  refine lv_iconst (v := (1:Int32)) hx hb d_LW_law_373 (by decide) ?_
  refine lv_goto (tgt := 378) hx hb d_LW_law_374 (by decide) ?_
  refine lv_aload_n hx hb d_LW_law_378 rfl (lv_at hl 0 rfl) ?_
  refine lv_iload hx hb d_LW_law_379 (lv_at hl 4 rfl) ?_
  refine lv_iconst (v := (2:Int32)) hx hb d_LW_law_381 (by decide) ?_
  refine lv_iadd hx hb d_LW_law_382 ?_
  refine va_sld hx hb hX hbl hbA hS hi2 d_LW_law_383 ?_
  refine lv_aload_n hx hb d_LW_law_384 rfl (lv_at hl 0 rfl) ?_
  refine lv_iload hx hb d_LW_law_385 (lv_at hl 4 rfl) ?_
  refine lv_iconst (v := (3:Int32)) hx hb d_LW_law_387 (by decide) ?_
  refine lv_iadd hx hb d_LW_law_388 ?_
  refine va_sld hx hb hX hbl hbA hS hi3 d_LW_law_389 ?_
  refine lv_aload_n hx hb d_LW_law_390 rfl (lv_at hl 3 rfl) ?_
  refine o_SW (rest := []) (st1 := [.int (1:Int32)]) (As := [.ref (ad 0), .int (1:Int32), .int (xs (i + (2:Int32)).toNatClampNeg), .int (xs (i + (3:Int32)).toNatClampNeg), .ref o]) hE.1 C1 (lh_value_2 hE hT l hfl (1:Int32) (xs (i + (2:Int32)).toNatClampNeg) (xs (i + (3:Int32)).toNatClampNeg) Sj T0 T1 Rd Pg Pt Mk Lk Ck Jd Ld Pr rt v f h) hK1 hP1 (o_Dl (hDD f rt Sj T0 T1 Rd Pg Pt Mk Lk Ck Jd Ld Pr rt2 Ni Np No Nx Nf Na Nh Nq Nj M0 M1)) hS hl.1 k_7_34 k_7_35 k_1_0 kw_LW_value hs_LW_value rfl rfl ⟨(Nat.le_of_ble_eq_true rfl), (Nat.le_of_ble_eq_true rfl)⟩ rfl (Nat.le_of_ble_eq_true rfl) ⟨hcs, hss⟩ rfl d_LW_law_391 (fun H1 locs1 hQ1 hk hS1 => ?_)
  have hP2 := o_keep2 (hDD f rt Sj T0 T1 Rd Pg Pt Mk Lk Ck Jd Ld Pr rt2 Ni Np No Nx Nf Na Nh Nq Nj M0 M1) hP2 hk
  have hP1 := hQ1
  have hS := hS1
  refine lv_istore (lv' := [(5, .int (1:Int32)), (0, .ref b), (1, .ref (ad 0)), (2, .ref (ad2 0)), (3, .ref o), (4, .int i)]) hx hb d_LW_law_394 hl (by decide) rfl (fun ls hl => ?_)
  refine lv_aload_n hx hb d_LW_law_396 rfl (lv_at hl 3 rfl) ?_
  refine lv_aload_n hx hb d_LW_law_397 rfl (lv_at hl 1 rfl) ?_
  refine lv_iload hx hb d_LW_law_398 (lv_at hl 5 rfl) ?_
  refine lv_iconst (v := (1:Int32)) hx hb d_LW_law_400 (by decide) ?_
  refine lv_iadd hx hb d_LW_law_401 ?_
  refine va_sld hx hb hX hbl hbA hS hi1 d_LW_law_402 ?_
  refine lv_if_eq (tgt := 410) hx hb d_LW_law_403 (by decide) (fun z => absurd z hb0) (fun _ => ?_)
  refine lv_iconst (v := (1:Int32)) hx hb d_LW_law_406 (by decide) ?_
  refine lv_goto (tgt := 411) hx hb d_LW_law_407 (by decide) ?_
  refine lv_aload_n hx hb d_LW_law_411 rfl (lv_at hl 1 rfl) ?_
  refine lv_iload hx hb d_LW_law_412 (lv_at hl 5 rfl) ?_
  refine lv_iconst (v := (2:Int32)) hx hb d_LW_law_414 (by decide) ?_
  refine lv_iadd hx hb d_LW_law_415 ?_
  refine va_sld hx hb hX hbl hbA hS hi2 d_LW_law_416 ?_
  refine lv_aload_n hx hb d_LW_law_417 rfl (lv_at hl 1 rfl) ?_
  refine lv_iload hx hb d_LW_law_418 (lv_at hl 5 rfl) ?_
  refine lv_iconst (v := (3:Int32)) hx hb d_LW_law_420 (by decide) ?_
  refine lv_iadd hx hb d_LW_law_421 ?_
  refine va_sld hx hb hX hbl hbA hS hi3 d_LW_law_422 ?_
  refine o_VF (rest := []) (st1 := [.int v2]) (As := [.int (1:Int32), .int (xs (i + (2:Int32)).toNatClampNeg), .int (xs (i + (3:Int32)).toNatClampNeg)]) (w1 := (m_cw ad2 ca2 ky ty rt2 Ni' Np No Nx Nf Na Nh Nq Nj M0 M1)) hE.1 C2 (e_MM_value hE hKy l (1:Int32) (xs (i + (2:Int32)).toNatClampNeg) (xs (i + (3:Int32)).toNatClampNeg) M0 M1 Ni Np No Nx Nf Na Nh Nq Nj rt2 h2) hP2 (o_Dr (hDD f rt Sj T0 T1 Rd Pg Pt Mk Lk Ck Jd Ld Pr rt2 Ni Np No Nx Nf Na Nh Nq Nj M0 M1)) hS hl.1 rfl mw_0 k_10_84 k_10_85 k_10_86 k_1_12 k_10_87 hv_MM_value rfl rfl ⟨(Nat.le_of_ble_eq_true rfl), (Nat.le_of_ble_eq_true rfl)⟩ rfl (Nat.le_of_ble_eq_true rfl) ⟨by omega, by omega⟩ rfl d_LW_law_423 (fun H1 locs1 hQ2 hk hS1 => ?_)
  have hP1 := o_keep1 (hDD f rt Sj T0 T1 Rd Pg Pt Mk Lk Ck Jd Ld Pr rt2 Ni Np No Nx Nf Na Nh Nq Nj M0 M1) hP1 hk
  have hP2 := hQ2
  have hS := hS1
  refine lv_istore (lv' := [(6, .int v2), (5, .int (1:Int32)), (0, .ref b), (1, .ref (ad 0)), (2, .ref (ad2 0)), (3, .ref o), (4, .int i)]) hx hb d_LW_law_426 hl (by decide) rfl (fun ls hl => ?_)
  refine lv_goto (tgt := 574) hx hb d_LW_law_428 (by decide) ?_
  exact kk _ _ _ hP1 hP2 hS (lv_sub hl [2, 3, 4, 5, 6] rfl)
set_option maxHeartbeats 4000000 in
set_option maxRecDepth 100000 in
theorem la_alike_0_n {E : (Nat → Prop) → State → Heap → Prop} {p : Program} {l : Launch} {e : Env} {s : State} {m : MethodId} {args : Array Value} {below : List Frame} {meth : Method} {c : Code} {D1 D2 : va_G} {ad ad2 kd sd vd xd : Nat → Nat} {ca ca2 : Nat → ClassId} {ky ty : Nat → Option Nat} {cO : ClassId} {o b L : Nat} {xs : Nat → Int32} {A : Nat → Prop} {Q : State → Prop} {H : Heap} {locs : List Loc} {cells slots : Nat} {ls : Array Slot} {i : Int32} (hE : o_EK E kd sd vd xd) (hKy : m_KY ky ty sd) (hT : o_ET E) (hfl : l.flags = pinnedFlags ++ [noTraceFlag]) (C1 : o_Cx E p s m args meth c D1 o_cls ((cO, .long) :: o_tys ca) "SchemaJudgeLaw" code (some .boolean) 7 (.tt) A) (C1a : o_Cx E p s m args meth c D1 o_cls (o_tys ca) "SchemaJudgeLaw" code (some .boolean) 7 (.tt) A) (C2 : o_Cx E p s m args meth c D2 m_cls (m_tys ca2) "SchemaJudgeLaw" code (some .boolean) 7 (.tt) A) (hX : va_X b L xs s s.heap) (hbl : b < s.heap.size) (hbA : ¬ A b) (hDD : ∀ (f : Nat → Int64) (rt : Nat) (Sj : SSJ) (T0 : STx) (T1 : STx) (Rd : SRd) (Pg : SPg) (Pt : SPt) (Mk : SMk) (Lk : SLk) (Ck : SCk) (Jd : SJd) (Ld : SLd) (Pr : SPr) (rt2 : Nat) (Ni : SNI) (Np : SNP) (No : SNO) (Nx : SNX) (Nf : SNF) (Na : SNA) (Nh : SNH) (Nq : SNQ) (Nj : SNJ) (M0 : SMT) (M1 : SMT), va_D A (((o, .inl (cO, 1, .inr (.inl f))) :: o_cw ad ca rt Sj T0 T1 Rd Pg Pt Mk Lk Ck Jd Ld Pr) ++ m_cw ad2 ca2 ky ty rt2 Ni Np No Nx Nf Na Nh Nq Nj M0 M1)) (hi1 : vp_in (i + (1:Int32)) L) (hi2 : vp_in (i + (2:Int32)) L) (hi3 : vp_in (i + (3:Int32)) L) (hi4 : vp_in (i + (4:Int32)) L) (hi5 : vp_in (i + (5:Int32)) L) (hcs : cells + 1 ≤ room_1.cells) (hss : slots + 6 ≤ room_1.slots) (n : Nat) (n2 : Nat) (Sj : SSJ) (T0 : STx) (T1 : STx) (Rd : SRd) (Pg : SPg) (Pt : SPt) (Mk : SMk) (Lk : SLk) (Ck : SCk) (Jd : SJd) (Ld : SLd) (Pr : SPr) (rt : Nat) (rt2 : Nat) (Ni : SNI) (Np : SNP) (No : SNO) (Nx : SNX) (Nf : SNF) (Na : SNA) (Nh : SNH) (Nq : SNQ) (Nj : SNJ) (M0 : SMT) (M1 : SMT) (f : Nat → Int64) (v : Int32) (v2 : Int32) (Ni' : SNI) (h : m_SJ_alike n (xs (i + (1:Int32)).toNatClampNeg) (xs (i + (2:Int32)).toNatClampNeg) T1 = some (0, v)) (h2 : m_MM_alike n2 (xs (i + (1:Int32)).toNatClampNeg) (xs (i + (2:Int32)).toNatClampNeg) M1 Ni = some (v2, Ni')) (h3 : m_MM_thrown Ni' = some (0:Int32)) (hz : ¬ v2 = 0) (hv : ((vp_updL f 0 (if v = 0 then 0 else 1)) 0) = (1:Int64)) (hP1 : va_P D1 o_cls ((o, .inl (cO, 1, .inr (.inl f))) :: o_cw ad ca rt Sj T0 T1 Rd Pg Pt Mk Lk Ck Jd Ld Pr) H) (hP2 : va_P D2 m_cls (m_cw ad2 ca2 ky ty rt2 Ni Np No Nx Nf Na Nh Nq Nj M0 M1) H) (hS : va_S A s.heap H locs) (hl : lv_has ls 7 [(0, .ref b), (1, .ref (ad 0)), (2, .ref (ad2 0)), (3, .ref o), (4, .int i)]) (kk : ∀ (H : Heap) (locs : List Loc) (ls : Array Slot), va_P D1 o_cls ((o, .inl (cO, 1, .inr (.inl (vp_updL f 0 (if v = 0 then 0 else 1))))) :: o_cw ad ca rt Sj T0 T1 Rd Pg Pt Mk Lk Ck Jd Ld Pr) H → va_P D2 m_cls (m_cw ad2 ca2 ky ty rt2 Ni' Np No Nx Nf Na Nh Nq Nj M0 M1) H → va_S A s.heap H locs → lv_has ls 7 [(0, .ref b), (1, .ref (ad 0)), (2, .ref (ad2 0)), (3, .ref o), (4, .int i)] → W p l e room_1 s m args below meth c H locs (cells + 1) (slots + 6) Q (F0 m 574 ls [])) : W p l e room_1 s m args below meth c H locs cells slots Q (F0 m 431 ls []) := by
  have C0 := C1
  obtain ⟨hx, hb, -, -, -, hown, hts, hK1, -, -⟩ := C0
  refine lv_aload_n hx hb d_LW_law_431 rfl (lv_at hl 1 rfl) ?_
  refine lv_aload_n hx hb d_LW_law_432 rfl (lv_at hl 0 rfl) ?_
  refine lv_iload hx hb d_LW_law_433 (lv_at hl 4 rfl) ?_
  refine lv_iconst (v := (1:Int32)) hx hb d_LW_law_435 (by decide) ?_
  refine lv_iadd hx hb d_LW_law_436 ?_
  refine va_sld hx hb hX hbl hbA hS hi1 d_LW_law_437 ?_
  refine lv_aload_n hx hb d_LW_law_438 rfl (lv_at hl 0 rfl) ?_
  refine lv_iload hx hb d_LW_law_439 (lv_at hl 4 rfl) ?_
  refine lv_iconst (v := (2:Int32)) hx hb d_LW_law_441 (by decide) ?_
  refine lv_iadd hx hb d_LW_law_442 ?_
  refine va_sld hx hb hX hbl hbA hS hi2 d_LW_law_443 ?_
  refine lv_aload_n hx hb d_LW_law_444 rfl (lv_at hl 3 rfl) ?_
  refine o_SW (rest := []) (st1 := [.int (0:Int32)]) (As := [.ref (ad 0), .int (xs (i + (1:Int32)).toNatClampNeg), .int (xs (i + (2:Int32)).toNatClampNeg), .ref o]) hE.1 C1 (lh_alike_0 hE hT l hfl n (xs (i + (1:Int32)).toNatClampNeg) (xs (i + (2:Int32)).toNatClampNeg) Sj T0 T1 Rd Pg Pt Mk Lk Ck Jd Ld Pr rt v f h) hK1 hP1 (o_Dl (hDD f rt Sj T0 T1 Rd Pg Pt Mk Lk Ck Jd Ld Pr rt2 Ni Np No Nx Nf Na Nh Nq Nj M0 M1)) hS hl.1 k_7_52 k_7_53 k_1_0 kw_LW_alike hs_LW_alike rfl rfl ⟨(Nat.le_of_ble_eq_true rfl), (Nat.le_of_ble_eq_true rfl)⟩ rfl (Nat.le_of_ble_eq_true rfl) ⟨hcs, hss⟩ rfl d_LW_law_445 (fun H1 locs1 hQ1 hk hS1 => ?_)
  have hP2 := o_keep2 (hDD f rt Sj T0 T1 Rd Pg Pt Mk Lk Ck Jd Ld Pr rt2 Ni Np No Nx Nf Na Nh Nq Nj M0 M1) hP2 hk
  have hP1 := hQ1
  have hS := hS1
  refine lv_istore (lv' := [(5, .int (0:Int32)), (0, .ref b), (1, .ref (ad 0)), (2, .ref (ad2 0)), (3, .ref o), (4, .int i)]) hx hb d_LW_law_448 hl (by decide) rfl (fun ls hl => ?_)
  refine lv_aload_n hx hb d_LW_law_450 rfl (lv_at hl 3 rfl) ?_
  refine lv_aload_n hx hb d_LW_law_451 rfl (lv_at hl 1 rfl) ?_
  refine lv_iload hx hb d_LW_law_452 (lv_at hl 5 rfl) ?_
  refine lv_iconst (v := (1:Int32)) hx hb d_LW_law_454 (by decide) ?_
  refine lv_iadd hx hb d_LW_law_455 ?_
  refine va_sld hx hb hX hbl hbA hS hi1 d_LW_law_456 ?_
  refine lv_aload_n hx hb d_LW_law_457 rfl (lv_at hl 1 rfl) ?_
  refine lv_iload hx hb d_LW_law_458 (lv_at hl 5 rfl) ?_
  refine lv_iconst (v := (2:Int32)) hx hb d_LW_law_460 (by decide) ?_
  refine lv_iadd hx hb d_LW_law_461 ?_
  refine va_sld hx hb hX hbl hbA hS hi2 d_LW_law_462 ?_
  refine o_VF (rest := []) (st1 := [.int v2]) (As := [.int (xs (i + (1:Int32)).toNatClampNeg), .int (xs (i + (2:Int32)).toNatClampNeg)]) (w1 := (m_cw ad2 ca2 ky ty rt2 Ni' Np No Nx Nf Na Nh Nq Nj M0 M1)) hE.1 C2 (e_MM_alike hE hKy l n2 (xs (i + (1:Int32)).toNatClampNeg) (xs (i + (2:Int32)).toNatClampNeg) M1 Ni Np No Nx Nf Na Nh Nq Nj M0 rt2 h2) hP2 (o_Dr (hDD (vp_updL f 0 (if v = 0 then 0 else 1)) rt Sj T0 T1 Rd Pg Pt Mk Lk Ck Jd Ld Pr rt2 Ni Np No Nx Nf Na Nh Nq Nj M0 M1)) hS hl.1 rfl mw_0 k_10_88 k_10_89 k_10_90 k_1_12 k_10_91 hv_MM_alike rfl rfl ⟨(Nat.le_of_ble_eq_true rfl), (Nat.le_of_ble_eq_true rfl)⟩ rfl (Nat.le_of_ble_eq_true rfl) ⟨by omega, by omega⟩ rfl d_LW_law_463 (fun H1 locs1 hQ2 hk hS1 => ?_)
  have hP1 := o_keep1 (hDD (vp_updL f 0 (if v = 0 then 0 else 1)) rt Sj T0 T1 Rd Pg Pt Mk Lk Ck Jd Ld Pr rt2 Ni Np No Nx Nf Na Nh Nq Nj M0 M1) hP1 hk
  have hP2 := hQ2
  have hS := hS1
  refine lv_istore (lv' := [(6, .int v2), (5, .int (0:Int32)), (0, .ref b), (1, .ref (ad 0)), (2, .ref (ad2 0)), (3, .ref o), (4, .int i)]) hx hb d_LW_law_466 hl (by decide) rfl (fun ls hl => ?_)
  refine lv_aload_n hx hb d_LW_law_468 rfl (lv_at hl 4 rfl) ?_
  refine o_VF (rest := []) (st1 := [.int (0:Int32)]) (As := []) (w1 := (m_cw ad2 ca2 ky ty rt2 Ni' Np No Nx Nf Na Nh Nq Nj M0 M1)) hE.1 C2 (e_MM_thrown hE hKy l Ni' Np No Nx Nf Na Nh Nq Nj M0 M1 rt2 h3) hP2 (o_Dr (hDD (vp_updL f 0 (if v = 0 then 0 else 1)) rt Sj T0 T1 Rd Pg Pt Mk Lk Ck Jd Ld Pr rt2 Ni' Np No Nx Nf Na Nh Nq Nj M0 M1)) hS hl.1 rfl mw_0 k_8_168 k_8_169 k_8_170 k_1_12 k_8_171 hv_MM_thrown rfl rfl ⟨(Nat.le_of_ble_eq_true rfl), (Nat.le_of_ble_eq_true rfl)⟩ rfl (Nat.le_of_ble_eq_true rfl) ⟨by omega, by omega⟩ rfl d_LW_law_469 (fun H1 locs1 hQ2 hk hS1 => ?_)
  have hP1 := o_keep1 (hDD (vp_updL f 0 (if v = 0 then 0 else 1)) rt Sj T0 T1 Rd Pg Pt Mk Lk Ck Jd Ld Pr rt2 Ni' Np No Nx Nf Na Nh Nq Nj M0 M1) hP1 hk
  have hP2 := hQ2
  have hS := hS1
  refine lv_iload hx hb d_LW_law_472 (lv_at hl 1 rfl) ?_
  refine lv_icmp_eq (tgt := 479) hx hb d_LW_law_474 (by decide) (fun _ => ?_) (fun z => absurd rfl z)
  refine lv_iload hx hb d_LW_law_479 (lv_at hl 1 rfl) ?_
  refine lv_if_ne (tgt := 503) hx hb d_LW_law_481 (by decide) (fun z => absurd rfl z) (fun _ => ?_)
  refine lv_aload_n hx hb d_LW_law_484 rfl (lv_at hl 5 rfl) ?_
  refine lv_iconst (v := (0:Int32)) hx hb d_LW_law_485 (by decide) ?_
  refine o_lald (f := (vp_updL f 0 (if v = 0 then 0 else 1))) C1 hP1 0 0 rfl rfl (show o_in (0:Int32) 1 = true by decide) d_LW_law_486 ?_
  refine lv_iload hx hb d_LW_law_487 (lv_at hl 0 rfl) ?_
  refine lv_if_eq (tgt := 496) hx hb d_LW_law_489 (by decide) (fun z => absurd z hz) (fun _ => ?_)
  refine lv_lconst (v := (1:Int64)) hx hb d_LW_law_492 (by decide) ?_
  refine lv_goto (tgt := 497) hx hb d_LW_law_493 (by decide) ?_
  refine W.lcmp hx hb d_LW_law_497 ?_
  refine lv_if_eq (tgt := 503) hx hb d_LW_law_498 (by decide) (fun _ => ?_) (fun z => absurd (o_cmp0 hv) z)
  refine lv_goto (tgt := 574) hx hb d_LW_law_503 (by decide) ?_
  exact kk _ _ _ hP1 hP2 hS (lv_sub hl [2, 3, 4, 5, 6] rfl)
set_option maxHeartbeats 4000000 in
set_option maxRecDepth 100000 in
theorem la_alike_0_z {E : (Nat → Prop) → State → Heap → Prop} {p : Program} {l : Launch} {e : Env} {s : State} {m : MethodId} {args : Array Value} {below : List Frame} {meth : Method} {c : Code} {D1 D2 : va_G} {ad ad2 kd sd vd xd : Nat → Nat} {ca ca2 : Nat → ClassId} {ky ty : Nat → Option Nat} {cO : ClassId} {o b L : Nat} {xs : Nat → Int32} {A : Nat → Prop} {Q : State → Prop} {H : Heap} {locs : List Loc} {cells slots : Nat} {ls : Array Slot} {i : Int32} (hE : o_EK E kd sd vd xd) (hKy : m_KY ky ty sd) (hT : o_ET E) (hfl : l.flags = pinnedFlags ++ [noTraceFlag]) (C1 : o_Cx E p s m args meth c D1 o_cls ((cO, .long) :: o_tys ca) "SchemaJudgeLaw" code (some .boolean) 7 (.tt) A) (C1a : o_Cx E p s m args meth c D1 o_cls (o_tys ca) "SchemaJudgeLaw" code (some .boolean) 7 (.tt) A) (C2 : o_Cx E p s m args meth c D2 m_cls (m_tys ca2) "SchemaJudgeLaw" code (some .boolean) 7 (.tt) A) (hX : va_X b L xs s s.heap) (hbl : b < s.heap.size) (hbA : ¬ A b) (hDD : ∀ (f : Nat → Int64) (rt : Nat) (Sj : SSJ) (T0 : STx) (T1 : STx) (Rd : SRd) (Pg : SPg) (Pt : SPt) (Mk : SMk) (Lk : SLk) (Ck : SCk) (Jd : SJd) (Ld : SLd) (Pr : SPr) (rt2 : Nat) (Ni : SNI) (Np : SNP) (No : SNO) (Nx : SNX) (Nf : SNF) (Na : SNA) (Nh : SNH) (Nq : SNQ) (Nj : SNJ) (M0 : SMT) (M1 : SMT), va_D A (((o, .inl (cO, 1, .inr (.inl f))) :: o_cw ad ca rt Sj T0 T1 Rd Pg Pt Mk Lk Ck Jd Ld Pr) ++ m_cw ad2 ca2 ky ty rt2 Ni Np No Nx Nf Na Nh Nq Nj M0 M1)) (hi1 : vp_in (i + (1:Int32)) L) (hi2 : vp_in (i + (2:Int32)) L) (hi3 : vp_in (i + (3:Int32)) L) (hi4 : vp_in (i + (4:Int32)) L) (hi5 : vp_in (i + (5:Int32)) L) (hcs : cells + 1 ≤ room_1.cells) (hss : slots + 6 ≤ room_1.slots) (n : Nat) (n2 : Nat) (Sj : SSJ) (T0 : STx) (T1 : STx) (Rd : SRd) (Pg : SPg) (Pt : SPt) (Mk : SMk) (Lk : SLk) (Ck : SCk) (Jd : SJd) (Ld : SLd) (Pr : SPr) (rt : Nat) (rt2 : Nat) (Ni : SNI) (Np : SNP) (No : SNO) (Nx : SNX) (Nf : SNF) (Na : SNA) (Nh : SNH) (Nq : SNQ) (Nj : SNJ) (M0 : SMT) (M1 : SMT) (f : Nat → Int64) (v : Int32) (v2 : Int32) (Ni' : SNI) (h : m_SJ_alike n (xs (i + (1:Int32)).toNatClampNeg) (xs (i + (2:Int32)).toNatClampNeg) T1 = some (0, v)) (h2 : m_MM_alike n2 (xs (i + (1:Int32)).toNatClampNeg) (xs (i + (2:Int32)).toNatClampNeg) M1 Ni = some (v2, Ni')) (h3 : m_MM_thrown Ni' = some (0:Int32)) (hz : v2 = 0) (hv : ((vp_updL f 0 (if v = 0 then 0 else 1)) 0) = (0:Int64)) (hP1 : va_P D1 o_cls ((o, .inl (cO, 1, .inr (.inl f))) :: o_cw ad ca rt Sj T0 T1 Rd Pg Pt Mk Lk Ck Jd Ld Pr) H) (hP2 : va_P D2 m_cls (m_cw ad2 ca2 ky ty rt2 Ni Np No Nx Nf Na Nh Nq Nj M0 M1) H) (hS : va_S A s.heap H locs) (hl : lv_has ls 7 [(0, .ref b), (1, .ref (ad 0)), (2, .ref (ad2 0)), (3, .ref o), (4, .int i)]) (kk : ∀ (H : Heap) (locs : List Loc) (ls : Array Slot), va_P D1 o_cls ((o, .inl (cO, 1, .inr (.inl (vp_updL f 0 (if v = 0 then 0 else 1))))) :: o_cw ad ca rt Sj T0 T1 Rd Pg Pt Mk Lk Ck Jd Ld Pr) H → va_P D2 m_cls (m_cw ad2 ca2 ky ty rt2 Ni' Np No Nx Nf Na Nh Nq Nj M0 M1) H → va_S A s.heap H locs → lv_has ls 7 [(0, .ref b), (1, .ref (ad 0)), (2, .ref (ad2 0)), (3, .ref o), (4, .int i)] → W p l e room_1 s m args below meth c H locs (cells + 1) (slots + 6) Q (F0 m 574 ls [])) : W p l e room_1 s m args below meth c H locs cells slots Q (F0 m 431 ls []) := by
  have C0 := C1
  obtain ⟨hx, hb, -, -, -, hown, hts, hK1, -, -⟩ := C0
  refine lv_aload_n hx hb d_LW_law_431 rfl (lv_at hl 1 rfl) ?_
  refine lv_aload_n hx hb d_LW_law_432 rfl (lv_at hl 0 rfl) ?_
  refine lv_iload hx hb d_LW_law_433 (lv_at hl 4 rfl) ?_
  refine lv_iconst (v := (1:Int32)) hx hb d_LW_law_435 (by decide) ?_
  refine lv_iadd hx hb d_LW_law_436 ?_
  refine va_sld hx hb hX hbl hbA hS hi1 d_LW_law_437 ?_
  refine lv_aload_n hx hb d_LW_law_438 rfl (lv_at hl 0 rfl) ?_
  refine lv_iload hx hb d_LW_law_439 (lv_at hl 4 rfl) ?_
  refine lv_iconst (v := (2:Int32)) hx hb d_LW_law_441 (by decide) ?_
  refine lv_iadd hx hb d_LW_law_442 ?_
  refine va_sld hx hb hX hbl hbA hS hi2 d_LW_law_443 ?_
  refine lv_aload_n hx hb d_LW_law_444 rfl (lv_at hl 3 rfl) ?_
  refine o_SW (rest := []) (st1 := [.int (0:Int32)]) (As := [.ref (ad 0), .int (xs (i + (1:Int32)).toNatClampNeg), .int (xs (i + (2:Int32)).toNatClampNeg), .ref o]) hE.1 C1 (lh_alike_0 hE hT l hfl n (xs (i + (1:Int32)).toNatClampNeg) (xs (i + (2:Int32)).toNatClampNeg) Sj T0 T1 Rd Pg Pt Mk Lk Ck Jd Ld Pr rt v f h) hK1 hP1 (o_Dl (hDD f rt Sj T0 T1 Rd Pg Pt Mk Lk Ck Jd Ld Pr rt2 Ni Np No Nx Nf Na Nh Nq Nj M0 M1)) hS hl.1 k_7_52 k_7_53 k_1_0 kw_LW_alike hs_LW_alike rfl rfl ⟨(Nat.le_of_ble_eq_true rfl), (Nat.le_of_ble_eq_true rfl)⟩ rfl (Nat.le_of_ble_eq_true rfl) ⟨hcs, hss⟩ rfl d_LW_law_445 (fun H1 locs1 hQ1 hk hS1 => ?_)
  have hP2 := o_keep2 (hDD f rt Sj T0 T1 Rd Pg Pt Mk Lk Ck Jd Ld Pr rt2 Ni Np No Nx Nf Na Nh Nq Nj M0 M1) hP2 hk
  have hP1 := hQ1
  have hS := hS1
  refine lv_istore (lv' := [(5, .int (0:Int32)), (0, .ref b), (1, .ref (ad 0)), (2, .ref (ad2 0)), (3, .ref o), (4, .int i)]) hx hb d_LW_law_448 hl (by decide) rfl (fun ls hl => ?_)
  refine lv_aload_n hx hb d_LW_law_450 rfl (lv_at hl 3 rfl) ?_
  refine lv_aload_n hx hb d_LW_law_451 rfl (lv_at hl 1 rfl) ?_
  refine lv_iload hx hb d_LW_law_452 (lv_at hl 5 rfl) ?_
  refine lv_iconst (v := (1:Int32)) hx hb d_LW_law_454 (by decide) ?_
  refine lv_iadd hx hb d_LW_law_455 ?_
  refine va_sld hx hb hX hbl hbA hS hi1 d_LW_law_456 ?_
  refine lv_aload_n hx hb d_LW_law_457 rfl (lv_at hl 1 rfl) ?_
  refine lv_iload hx hb d_LW_law_458 (lv_at hl 5 rfl) ?_
  refine lv_iconst (v := (2:Int32)) hx hb d_LW_law_460 (by decide) ?_
  refine lv_iadd hx hb d_LW_law_461 ?_
  refine va_sld hx hb hX hbl hbA hS hi2 d_LW_law_462 ?_
  refine o_VF (rest := []) (st1 := [.int v2]) (As := [.int (xs (i + (1:Int32)).toNatClampNeg), .int (xs (i + (2:Int32)).toNatClampNeg)]) (w1 := (m_cw ad2 ca2 ky ty rt2 Ni' Np No Nx Nf Na Nh Nq Nj M0 M1)) hE.1 C2 (e_MM_alike hE hKy l n2 (xs (i + (1:Int32)).toNatClampNeg) (xs (i + (2:Int32)).toNatClampNeg) M1 Ni Np No Nx Nf Na Nh Nq Nj M0 rt2 h2) hP2 (o_Dr (hDD (vp_updL f 0 (if v = 0 then 0 else 1)) rt Sj T0 T1 Rd Pg Pt Mk Lk Ck Jd Ld Pr rt2 Ni Np No Nx Nf Na Nh Nq Nj M0 M1)) hS hl.1 rfl mw_0 k_10_88 k_10_89 k_10_90 k_1_12 k_10_91 hv_MM_alike rfl rfl ⟨(Nat.le_of_ble_eq_true rfl), (Nat.le_of_ble_eq_true rfl)⟩ rfl (Nat.le_of_ble_eq_true rfl) ⟨by omega, by omega⟩ rfl d_LW_law_463 (fun H1 locs1 hQ2 hk hS1 => ?_)
  have hP1 := o_keep1 (hDD (vp_updL f 0 (if v = 0 then 0 else 1)) rt Sj T0 T1 Rd Pg Pt Mk Lk Ck Jd Ld Pr rt2 Ni Np No Nx Nf Na Nh Nq Nj M0 M1) hP1 hk
  have hP2 := hQ2
  have hS := hS1
  refine lv_istore (lv' := [(6, .int v2), (5, .int (0:Int32)), (0, .ref b), (1, .ref (ad 0)), (2, .ref (ad2 0)), (3, .ref o), (4, .int i)]) hx hb d_LW_law_466 hl (by decide) rfl (fun ls hl => ?_)
  refine lv_aload_n hx hb d_LW_law_468 rfl (lv_at hl 4 rfl) ?_
  refine o_VF (rest := []) (st1 := [.int (0:Int32)]) (As := []) (w1 := (m_cw ad2 ca2 ky ty rt2 Ni' Np No Nx Nf Na Nh Nq Nj M0 M1)) hE.1 C2 (e_MM_thrown hE hKy l Ni' Np No Nx Nf Na Nh Nq Nj M0 M1 rt2 h3) hP2 (o_Dr (hDD (vp_updL f 0 (if v = 0 then 0 else 1)) rt Sj T0 T1 Rd Pg Pt Mk Lk Ck Jd Ld Pr rt2 Ni' Np No Nx Nf Na Nh Nq Nj M0 M1)) hS hl.1 rfl mw_0 k_8_168 k_8_169 k_8_170 k_1_12 k_8_171 hv_MM_thrown rfl rfl ⟨(Nat.le_of_ble_eq_true rfl), (Nat.le_of_ble_eq_true rfl)⟩ rfl (Nat.le_of_ble_eq_true rfl) ⟨by omega, by omega⟩ rfl d_LW_law_469 (fun H1 locs1 hQ2 hk hS1 => ?_)
  have hP1 := o_keep1 (hDD (vp_updL f 0 (if v = 0 then 0 else 1)) rt Sj T0 T1 Rd Pg Pt Mk Lk Ck Jd Ld Pr rt2 Ni' Np No Nx Nf Na Nh Nq Nj M0 M1) hP1 hk
  have hP2 := hQ2
  have hS := hS1
  refine lv_iload hx hb d_LW_law_472 (lv_at hl 1 rfl) ?_
  refine lv_icmp_eq (tgt := 479) hx hb d_LW_law_474 (by decide) (fun _ => ?_) (fun z => absurd rfl z)
  refine lv_iload hx hb d_LW_law_479 (lv_at hl 1 rfl) ?_
  refine lv_if_ne (tgt := 503) hx hb d_LW_law_481 (by decide) (fun z => absurd rfl z) (fun _ => ?_)
  refine lv_aload_n hx hb d_LW_law_484 rfl (lv_at hl 5 rfl) ?_
  refine lv_iconst (v := (0:Int32)) hx hb d_LW_law_485 (by decide) ?_
  refine o_lald (f := (vp_updL f 0 (if v = 0 then 0 else 1))) C1 hP1 0 0 rfl rfl (show o_in (0:Int32) 1 = true by decide) d_LW_law_486 ?_
  refine lv_iload hx hb d_LW_law_487 (lv_at hl 0 rfl) ?_
  refine lv_if_eq (tgt := 496) hx hb d_LW_law_489 (by decide) (fun _ => ?_) (fun z => absurd hz z)
  refine lv_lconst (v := (0:Int64)) hx hb d_LW_law_496 (by decide) ?_
  refine W.lcmp hx hb d_LW_law_497 ?_
  refine lv_if_eq (tgt := 503) hx hb d_LW_law_498 (by decide) (fun _ => ?_) (fun z => absurd (o_cmp0 hv) z)
  refine lv_goto (tgt := 574) hx hb d_LW_law_503 (by decide) ?_
  exact kk _ _ _ hP1 hP2 hS (lv_sub hl [2, 3, 4, 5, 6] rfl)
set_option maxHeartbeats 4000000 in
set_option maxRecDepth 100000 in
theorem la_alike_1 {E : (Nat → Prop) → State → Heap → Prop} {p : Program} {l : Launch} {e : Env} {s : State} {m : MethodId} {args : Array Value} {below : List Frame} {meth : Method} {c : Code} {D1 D2 : va_G} {ad ad2 kd sd vd xd : Nat → Nat} {ca ca2 : Nat → ClassId} {ky ty : Nat → Option Nat} {cO : ClassId} {o b L : Nat} {xs : Nat → Int32} {A : Nat → Prop} {Q : State → Prop} {H : Heap} {locs : List Loc} {cells slots : Nat} {ls : Array Slot} {i : Int32} (hE : o_EK E kd sd vd xd) (hKy : m_KY ky ty sd) (hT : o_ET E) (hfl : l.flags = pinnedFlags ++ [noTraceFlag]) (C1 : o_Cx E p s m args meth c D1 o_cls ((cO, .long) :: o_tys ca) "SchemaJudgeLaw" code (some .boolean) 7 (.tt) A) (C1a : o_Cx E p s m args meth c D1 o_cls (o_tys ca) "SchemaJudgeLaw" code (some .boolean) 7 (.tt) A) (C2 : o_Cx E p s m args meth c D2 m_cls (m_tys ca2) "SchemaJudgeLaw" code (some .boolean) 7 (.tt) A) (hX : va_X b L xs s s.heap) (hbl : b < s.heap.size) (hbA : ¬ A b) (hDD : ∀ (f : Nat → Int64) (rt : Nat) (Sj : SSJ) (T0 : STx) (T1 : STx) (Rd : SRd) (Pg : SPg) (Pt : SPt) (Mk : SMk) (Lk : SLk) (Ck : SCk) (Jd : SJd) (Ld : SLd) (Pr : SPr) (rt2 : Nat) (Ni : SNI) (Np : SNP) (No : SNO) (Nx : SNX) (Nf : SNF) (Na : SNA) (Nh : SNH) (Nq : SNQ) (Nj : SNJ) (M0 : SMT) (M1 : SMT), va_D A (((o, .inl (cO, 1, .inr (.inl f))) :: o_cw ad ca rt Sj T0 T1 Rd Pg Pt Mk Lk Ck Jd Ld Pr) ++ m_cw ad2 ca2 ky ty rt2 Ni Np No Nx Nf Na Nh Nq Nj M0 M1)) (hi1 : vp_in (i + (1:Int32)) L) (hi2 : vp_in (i + (2:Int32)) L) (hi3 : vp_in (i + (3:Int32)) L) (hi4 : vp_in (i + (4:Int32)) L) (hi5 : vp_in (i + (5:Int32)) L) (hcs : cells + 1 ≤ room_1.cells) (hss : slots + 6 ≤ room_1.slots) (n : Nat) (n2 : Nat) (Sj : SSJ) (T0 : STx) (T1 : STx) (Rd : SRd) (Pg : SPg) (Pt : SPt) (Mk : SMk) (Lk : SLk) (Ck : SCk) (Jd : SJd) (Ld : SLd) (Pr : SPr) (rt : Nat) (rt2 : Nat) (Ni : SNI) (Np : SNP) (No : SNO) (Nx : SNX) (Nf : SNF) (Na : SNA) (Nh : SNH) (Nq : SNQ) (Nj : SNJ) (M0 : SMT) (M1 : SMT) (f : Nat → Int64) (v : Int32) (v2 : Int32) (Ni' : SNI) (h : m_SJ_alike n (xs (i + (1:Int32)).toNatClampNeg) (xs (i + (2:Int32)).toNatClampNeg) T1 = some (1, v)) (h2 : m_MM_alike n2 (xs (i + (1:Int32)).toNatClampNeg) (xs (i + (2:Int32)).toNatClampNeg) M1 Ni = some (v2, Ni')) (h3 : m_MM_thrown Ni' = some (1:Int32)) (hP1 : va_P D1 o_cls ((o, .inl (cO, 1, .inr (.inl f))) :: o_cw ad ca rt Sj T0 T1 Rd Pg Pt Mk Lk Ck Jd Ld Pr) H) (hP2 : va_P D2 m_cls (m_cw ad2 ca2 ky ty rt2 Ni Np No Nx Nf Na Nh Nq Nj M0 M1) H) (hS : va_S A s.heap H locs) (hl : lv_has ls 7 [(0, .ref b), (1, .ref (ad 0)), (2, .ref (ad2 0)), (3, .ref o), (4, .int i)]) (kk : ∀ (H : Heap) (locs : List Loc) (ls : Array Slot), va_P D1 o_cls ((o, .inl (cO, 1, .inr (.inl f))) :: o_cw ad ca rt Sj T0 T1 Rd Pg Pt Mk Lk Ck Jd Ld Pr) H → va_P D2 m_cls (m_cw ad2 ca2 ky ty rt2 Ni' Np No Nx Nf Na Nh Nq Nj M0 M1) H → va_S A s.heap H locs → lv_has ls 7 [(0, .ref b), (1, .ref (ad 0)), (2, .ref (ad2 0)), (3, .ref o), (4, .int i)] → W p l e room_1 s m args below meth c H locs (cells + 1) (slots + 6) Q (F0 m 574 ls [])) : W p l e room_1 s m args below meth c H locs cells slots Q (F0 m 431 ls []) := by
  have C0 := C1
  obtain ⟨hx, hb, -, -, -, hown, hts, hK1, -, -⟩ := C0
  refine lv_aload_n hx hb d_LW_law_431 rfl (lv_at hl 1 rfl) ?_
  refine lv_aload_n hx hb d_LW_law_432 rfl (lv_at hl 0 rfl) ?_
  refine lv_iload hx hb d_LW_law_433 (lv_at hl 4 rfl) ?_
  refine lv_iconst (v := (1:Int32)) hx hb d_LW_law_435 (by decide) ?_
  refine lv_iadd hx hb d_LW_law_436 ?_
  refine va_sld hx hb hX hbl hbA hS hi1 d_LW_law_437 ?_
  refine lv_aload_n hx hb d_LW_law_438 rfl (lv_at hl 0 rfl) ?_
  refine lv_iload hx hb d_LW_law_439 (lv_at hl 4 rfl) ?_
  refine lv_iconst (v := (2:Int32)) hx hb d_LW_law_441 (by decide) ?_
  refine lv_iadd hx hb d_LW_law_442 ?_
  refine va_sld hx hb hX hbl hbA hS hi2 d_LW_law_443 ?_
  refine lv_aload_n hx hb d_LW_law_444 rfl (lv_at hl 3 rfl) ?_
  refine o_SW (rest := []) (st1 := [.int (1:Int32)]) (As := [.ref (ad 0), .int (xs (i + (1:Int32)).toNatClampNeg), .int (xs (i + (2:Int32)).toNatClampNeg), .ref o]) hE.1 C1 (lh_alike_1 hE hT l hfl n (xs (i + (1:Int32)).toNatClampNeg) (xs (i + (2:Int32)).toNatClampNeg) Sj T0 T1 Rd Pg Pt Mk Lk Ck Jd Ld Pr rt v f h) hK1 hP1 (o_Dl (hDD f rt Sj T0 T1 Rd Pg Pt Mk Lk Ck Jd Ld Pr rt2 Ni Np No Nx Nf Na Nh Nq Nj M0 M1)) hS hl.1 k_7_52 k_7_53 k_1_0 kw_LW_alike hs_LW_alike rfl rfl ⟨(Nat.le_of_ble_eq_true rfl), (Nat.le_of_ble_eq_true rfl)⟩ rfl (Nat.le_of_ble_eq_true rfl) ⟨hcs, hss⟩ rfl d_LW_law_445 (fun H1 locs1 hQ1 hk hS1 => ?_)
  have hP2 := o_keep2 (hDD f rt Sj T0 T1 Rd Pg Pt Mk Lk Ck Jd Ld Pr rt2 Ni Np No Nx Nf Na Nh Nq Nj M0 M1) hP2 hk
  have hP1 := hQ1
  have hS := hS1
  refine lv_istore (lv' := [(5, .int (1:Int32)), (0, .ref b), (1, .ref (ad 0)), (2, .ref (ad2 0)), (3, .ref o), (4, .int i)]) hx hb d_LW_law_448 hl (by decide) rfl (fun ls hl => ?_)
  refine lv_aload_n hx hb d_LW_law_450 rfl (lv_at hl 3 rfl) ?_
  refine lv_aload_n hx hb d_LW_law_451 rfl (lv_at hl 1 rfl) ?_
  refine lv_iload hx hb d_LW_law_452 (lv_at hl 5 rfl) ?_
  refine lv_iconst (v := (1:Int32)) hx hb d_LW_law_454 (by decide) ?_
  refine lv_iadd hx hb d_LW_law_455 ?_
  refine va_sld hx hb hX hbl hbA hS hi1 d_LW_law_456 ?_
  refine lv_aload_n hx hb d_LW_law_457 rfl (lv_at hl 1 rfl) ?_
  refine lv_iload hx hb d_LW_law_458 (lv_at hl 5 rfl) ?_
  refine lv_iconst (v := (2:Int32)) hx hb d_LW_law_460 (by decide) ?_
  refine lv_iadd hx hb d_LW_law_461 ?_
  refine va_sld hx hb hX hbl hbA hS hi2 d_LW_law_462 ?_
  refine o_VF (rest := []) (st1 := [.int v2]) (As := [.int (xs (i + (1:Int32)).toNatClampNeg), .int (xs (i + (2:Int32)).toNatClampNeg)]) (w1 := (m_cw ad2 ca2 ky ty rt2 Ni' Np No Nx Nf Na Nh Nq Nj M0 M1)) hE.1 C2 (e_MM_alike hE hKy l n2 (xs (i + (1:Int32)).toNatClampNeg) (xs (i + (2:Int32)).toNatClampNeg) M1 Ni Np No Nx Nf Na Nh Nq Nj M0 rt2 h2) hP2 (o_Dr (hDD f rt Sj T0 T1 Rd Pg Pt Mk Lk Ck Jd Ld Pr rt2 Ni Np No Nx Nf Na Nh Nq Nj M0 M1)) hS hl.1 rfl mw_0 k_10_88 k_10_89 k_10_90 k_1_12 k_10_91 hv_MM_alike rfl rfl ⟨(Nat.le_of_ble_eq_true rfl), (Nat.le_of_ble_eq_true rfl)⟩ rfl (Nat.le_of_ble_eq_true rfl) ⟨by omega, by omega⟩ rfl d_LW_law_463 (fun H1 locs1 hQ2 hk hS1 => ?_)
  have hP1 := o_keep1 (hDD f rt Sj T0 T1 Rd Pg Pt Mk Lk Ck Jd Ld Pr rt2 Ni Np No Nx Nf Na Nh Nq Nj M0 M1) hP1 hk
  have hP2 := hQ2
  have hS := hS1
  refine lv_istore (lv' := [(6, .int v2), (5, .int (1:Int32)), (0, .ref b), (1, .ref (ad 0)), (2, .ref (ad2 0)), (3, .ref o), (4, .int i)]) hx hb d_LW_law_466 hl (by decide) rfl (fun ls hl => ?_)
  refine lv_aload_n hx hb d_LW_law_468 rfl (lv_at hl 4 rfl) ?_
  refine o_VF (rest := []) (st1 := [.int (1:Int32)]) (As := []) (w1 := (m_cw ad2 ca2 ky ty rt2 Ni' Np No Nx Nf Na Nh Nq Nj M0 M1)) hE.1 C2 (e_MM_thrown hE hKy l Ni' Np No Nx Nf Na Nh Nq Nj M0 M1 rt2 h3) hP2 (o_Dr (hDD f rt Sj T0 T1 Rd Pg Pt Mk Lk Ck Jd Ld Pr rt2 Ni' Np No Nx Nf Na Nh Nq Nj M0 M1)) hS hl.1 rfl mw_0 k_8_168 k_8_169 k_8_170 k_1_12 k_8_171 hv_MM_thrown rfl rfl ⟨(Nat.le_of_ble_eq_true rfl), (Nat.le_of_ble_eq_true rfl)⟩ rfl (Nat.le_of_ble_eq_true rfl) ⟨by omega, by omega⟩ rfl d_LW_law_469 (fun H1 locs1 hQ2 hk hS1 => ?_)
  have hP1 := o_keep1 (hDD f rt Sj T0 T1 Rd Pg Pt Mk Lk Ck Jd Ld Pr rt2 Ni' Np No Nx Nf Na Nh Nq Nj M0 M1) hP1 hk
  have hP2 := hQ2
  have hS := hS1
  refine lv_iload hx hb d_LW_law_472 (lv_at hl 1 rfl) ?_
  refine lv_icmp_eq (tgt := 479) hx hb d_LW_law_474 (by decide) (fun _ => ?_) (fun z => absurd rfl z)
  refine lv_iload hx hb d_LW_law_479 (lv_at hl 1 rfl) ?_
  refine lv_if_ne (tgt := 503) hx hb d_LW_law_481 (by decide) (fun _ => ?_) (fun z => absurd (show (1:Int32) = 0 from z) (by decide))
  refine lv_goto (tgt := 574) hx hb d_LW_law_503 (by decide) ?_
  exact kk _ _ _ hP1 hP2 hS (lv_sub hl [2, 3, 4, 5, 6] rfl)
set_option maxHeartbeats 4000000 in
set_option maxRecDepth 100000 in
theorem la_matches_0 {E : (Nat → Prop) → State → Heap → Prop} {p : Program} {l : Launch} {e : Env} {s : State} {m : MethodId} {args : Array Value} {below : List Frame} {meth : Method} {c : Code} {D1 D2 : va_G} {ad ad2 kd sd vd xd : Nat → Nat} {ca ca2 : Nat → ClassId} {ky ty : Nat → Option Nat} {cO : ClassId} {o b L : Nat} {xs : Nat → Int32} {A : Nat → Prop} {Q : State → Prop} {H : Heap} {locs : List Loc} {cells slots : Nat} {ls : Array Slot} {i : Int32} (hE : o_EK E kd sd vd xd) (hKy : m_KY ky ty sd) (hT : o_ET E) (hfl : l.flags = pinnedFlags ++ [noTraceFlag]) (C1 : o_Cx E p s m args meth c D1 o_cls ((cO, .long) :: o_tys ca) "SchemaJudgeLaw" code (some .boolean) 7 (.tt) A) (C1a : o_Cx E p s m args meth c D1 o_cls (o_tys ca) "SchemaJudgeLaw" code (some .boolean) 7 (.tt) A) (C2 : o_Cx E p s m args meth c D2 m_cls (m_tys ca2) "SchemaJudgeLaw" code (some .boolean) 7 (.tt) A) (hX : va_X b L xs s s.heap) (hbl : b < s.heap.size) (hbA : ¬ A b) (hDD : ∀ (f : Nat → Int64) (rt : Nat) (Sj : SSJ) (T0 : STx) (T1 : STx) (Rd : SRd) (Pg : SPg) (Pt : SPt) (Mk : SMk) (Lk : SLk) (Ck : SCk) (Jd : SJd) (Ld : SLd) (Pr : SPr) (rt2 : Nat) (Ni : SNI) (Np : SNP) (No : SNO) (Nx : SNX) (Nf : SNF) (Na : SNA) (Nh : SNH) (Nq : SNQ) (Nj : SNJ) (M0 : SMT) (M1 : SMT), va_D A (((o, .inl (cO, 1, .inr (.inl f))) :: o_cw ad ca rt Sj T0 T1 Rd Pg Pt Mk Lk Ck Jd Ld Pr) ++ m_cw ad2 ca2 ky ty rt2 Ni Np No Nx Nf Na Nh Nq Nj M0 M1)) (hi1 : vp_in (i + (1:Int32)) L) (hi2 : vp_in (i + (2:Int32)) L) (hi3 : vp_in (i + (3:Int32)) L) (hi4 : vp_in (i + (4:Int32)) L) (hi5 : vp_in (i + (5:Int32)) L) (hcs : cells + 1 ≤ room_1.cells) (hss : slots + 6 ≤ room_1.slots) (n : Nat) (n2 : Nat) (Sj : SSJ) (T0 : STx) (T1 : STx) (Rd : SRd) (Pg : SPg) (Pt : SPt) (Mk : SMk) (Lk : SLk) (Ck : SCk) (Jd : SJd) (Ld : SLd) (Pr : SPr) (rt : Nat) (rt2 : Nat) (Ni : SNI) (Np : SNP) (No : SNO) (Nx : SNX) (Nf : SNF) (Na : SNA) (Nh : SNH) (Nq : SNQ) (Nj : SNJ) (M0 : SMT) (M1 : SMT) (f : Nat → Int64) (Pg' : SPg) (Pt' : SPt) (v : Int32) (v2 : Int32) (Ni' : SNI) (Np' : SNP) (No' : SNO) (Nx' : SNX) (rt2' : Nat) (h : m_SJ_matches n (xs (i + (1:Int32)).toNatClampNeg) (xs (i + (2:Int32)).toNatClampNeg) T1 Pg Pt = some (0, v, Pg', Pt')) (h2 : m_MM_matches_1 n2 (xs (i + (1:Int32)).toNatClampNeg) (xs (i + (2:Int32)).toNatClampNeg) M1 Ni Np No Nx rt2 = some (v2, Ni', Np', No', Nx', rt2')) (hP1 : va_P D1 o_cls ((o, .inl (cO, 1, .inr (.inl f))) :: o_cw ad ca rt Sj T0 T1 Rd Pg Pt Mk Lk Ck Jd Ld Pr) H) (hP2 : va_P D2 m_cls (m_cw ad2 ca2 ky ty rt2 Ni Np No Nx Nf Na Nh Nq Nj M0 M1) H) (hS : va_S A s.heap H locs) (hl : lv_has ls 7 [(0, .ref b), (1, .ref (ad 0)), (2, .ref (ad2 0)), (3, .ref o), (4, .int i)]) (kk : ∀ (H : Heap) (locs : List Loc) (ls : Array Slot), va_P D1 o_cls ((o, .inl (cO, 1, .inr (.inl (vp_updL f 0 (if v = 0 then 0 else 1))))) :: o_cw ad ca rt Sj T0 T1 Rd Pg' Pt' Mk Lk Ck Jd Ld Pr) H → va_P D2 m_cls (m_cw ad2 ca2 ky ty rt2' Ni' Np' No' Nx' Nf Na Nh Nq Nj M0 M1) H → va_S A s.heap H locs → lv_has ls 7 [(0, .ref b), (1, .ref (ad 0)), (2, .ref (ad2 0)), (3, .ref o), (4, .int i)] → W p l e room_1 s m args below meth c H locs (cells + 1) (slots + 6) Q (F0 m 574 ls [])) : W p l e room_1 s m args below meth c H locs cells slots Q (F0 m 506 ls []) := by
  have C0 := C1
  obtain ⟨hx, hb, -, -, -, hown, hts, hK1, -, -⟩ := C0
  refine lv_aload_n hx hb d_LW_law_506 rfl (lv_at hl 1 rfl) ?_
  refine lv_aload_n hx hb d_LW_law_507 rfl (lv_at hl 0 rfl) ?_
  refine lv_iload hx hb d_LW_law_508 (lv_at hl 4 rfl) ?_
  refine lv_iconst (v := (1:Int32)) hx hb d_LW_law_510 (by decide) ?_
  refine lv_iadd hx hb d_LW_law_511 ?_
  refine va_sld hx hb hX hbl hbA hS hi1 d_LW_law_512 ?_
  refine lv_aload_n hx hb d_LW_law_513 rfl (lv_at hl 0 rfl) ?_
  refine lv_iload hx hb d_LW_law_514 (lv_at hl 4 rfl) ?_
  refine lv_iconst (v := (2:Int32)) hx hb d_LW_law_516 (by decide) ?_
  refine lv_iadd hx hb d_LW_law_517 ?_
  refine va_sld hx hb hX hbl hbA hS hi2 d_LW_law_518 ?_
  refine lv_aload_n hx hb d_LW_law_519 rfl (lv_at hl 3 rfl) ?_
  refine o_SW (rest := []) (st1 := [.int (0:Int32)]) (As := [.ref (ad 0), .int (xs (i + (1:Int32)).toNatClampNeg), .int (xs (i + (2:Int32)).toNatClampNeg), .ref o]) hE.1 C1 (lh_matches_0 hE hT l hfl n (xs (i + (1:Int32)).toNatClampNeg) (xs (i + (2:Int32)).toNatClampNeg) Sj T0 T1 Rd Pg Pt Mk Lk Ck Jd Ld Pr Pg' Pt' rt v f h) hK1 hP1 (o_Dl (hDD f rt Sj T0 T1 Rd Pg Pt Mk Lk Ck Jd Ld Pr rt2 Ni Np No Nx Nf Na Nh Nq Nj M0 M1)) hS hl.1 k_7_60 k_7_61 k_1_0 kw_LW_matches hs_LW_matches rfl rfl ⟨(Nat.le_of_ble_eq_true rfl), (Nat.le_of_ble_eq_true rfl)⟩ rfl (Nat.le_of_ble_eq_true rfl) ⟨hcs, hss⟩ rfl d_LW_law_520 (fun H1 locs1 hQ1 hk hS1 => ?_)
  have hP2 := o_keep2 (hDD f rt Sj T0 T1 Rd Pg Pt Mk Lk Ck Jd Ld Pr rt2 Ni Np No Nx Nf Na Nh Nq Nj M0 M1) hP2 hk
  have hP1 := hQ1
  have hS := hS1
  refine lv_istore (lv' := [(5, .int (0:Int32)), (0, .ref b), (1, .ref (ad 0)), (2, .ref (ad2 0)), (3, .ref o), (4, .int i)]) hx hb d_LW_law_523 hl (by decide) rfl (fun ls hl => ?_)
  refine lv_aload_n hx hb d_LW_law_525 rfl (lv_at hl 3 rfl) ?_
  refine lv_aload_n hx hb d_LW_law_526 rfl (lv_at hl 1 rfl) ?_
  refine lv_iload hx hb d_LW_law_527 (lv_at hl 5 rfl) ?_
  refine lv_iconst (v := (1:Int32)) hx hb d_LW_law_529 (by decide) ?_
  refine lv_iadd hx hb d_LW_law_530 ?_
  refine va_sld hx hb hX hbl hbA hS hi1 d_LW_law_531 ?_
  refine lv_aload_n hx hb d_LW_law_532 rfl (lv_at hl 1 rfl) ?_
  refine lv_iload hx hb d_LW_law_533 (lv_at hl 5 rfl) ?_
  refine lv_iconst (v := (2:Int32)) hx hb d_LW_law_535 (by decide) ?_
  refine lv_iadd hx hb d_LW_law_536 ?_
  refine va_sld hx hb hX hbl hbA hS hi2 d_LW_law_537 ?_
  refine o_VF (rest := []) (st1 := [.int v2]) (As := [.int (xs (i + (1:Int32)).toNatClampNeg), .int (xs (i + (2:Int32)).toNatClampNeg)]) (w1 := (m_cw ad2 ca2 ky ty rt2' Ni' Np' No' Nx' Nf Na Nh Nq Nj M0 M1)) hE.1 C2 (e_MM_matches_1 hE hKy l n2 (xs (i + (1:Int32)).toNatClampNeg) (xs (i + (2:Int32)).toNatClampNeg) M1 Ni Np No Nx rt2 Nf Na Nh Nq Nj M0 h2) hP2 (o_Dr (hDD (vp_updL f 0 (if v = 0 then 0 else 1)) rt Sj T0 T1 Rd Pg' Pt' Mk Lk Ck Jd Ld Pr rt2 Ni Np No Nx Nf Na Nh Nq Nj M0 M1)) hS hl.1 rfl mw_0 k_10_92 k_10_93 k_10_94 k_1_12 k_10_95 hv_MM_matches_1 rfl rfl ⟨(Nat.le_of_ble_eq_true rfl), (Nat.le_of_ble_eq_true rfl)⟩ rfl (Nat.le_of_ble_eq_true rfl) ⟨by omega, by omega⟩ rfl d_LW_law_538 (fun H1 locs1 hQ2 hk hS1 => ?_)
  have hP1 := o_keep1 (hDD (vp_updL f 0 (if v = 0 then 0 else 1)) rt Sj T0 T1 Rd Pg' Pt' Mk Lk Ck Jd Ld Pr rt2 Ni Np No Nx Nf Na Nh Nq Nj M0 M1) hP1 hk
  have hP2 := hQ2
  have hS := hS1
  refine lv_istore (lv' := [(6, .int v2), (5, .int (0:Int32)), (0, .ref b), (1, .ref (ad 0)), (2, .ref (ad2 0)), (3, .ref o), (4, .int i)]) hx hb d_LW_law_541 hl (by decide) rfl (fun ls hl => ?_)
  refine lv_goto (tgt := 574) hx hb d_LW_law_543 (by decide) ?_
  exact kk _ _ _ hP1 hP2 hS (lv_sub hl [2, 3, 4, 5, 6] rfl)
set_option maxHeartbeats 4000000 in
set_option maxRecDepth 100000 in
theorem la_matches_1 {E : (Nat → Prop) → State → Heap → Prop} {p : Program} {l : Launch} {e : Env} {s : State} {m : MethodId} {args : Array Value} {below : List Frame} {meth : Method} {c : Code} {D1 D2 : va_G} {ad ad2 kd sd vd xd : Nat → Nat} {ca ca2 : Nat → ClassId} {ky ty : Nat → Option Nat} {cO : ClassId} {o b L : Nat} {xs : Nat → Int32} {A : Nat → Prop} {Q : State → Prop} {H : Heap} {locs : List Loc} {cells slots : Nat} {ls : Array Slot} {i : Int32} (hE : o_EK E kd sd vd xd) (hKy : m_KY ky ty sd) (hT : o_ET E) (hfl : l.flags = pinnedFlags ++ [noTraceFlag]) (C1 : o_Cx E p s m args meth c D1 o_cls ((cO, .long) :: o_tys ca) "SchemaJudgeLaw" code (some .boolean) 7 (.tt) A) (C1a : o_Cx E p s m args meth c D1 o_cls (o_tys ca) "SchemaJudgeLaw" code (some .boolean) 7 (.tt) A) (C2 : o_Cx E p s m args meth c D2 m_cls (m_tys ca2) "SchemaJudgeLaw" code (some .boolean) 7 (.tt) A) (hX : va_X b L xs s s.heap) (hbl : b < s.heap.size) (hbA : ¬ A b) (hDD : ∀ (f : Nat → Int64) (rt : Nat) (Sj : SSJ) (T0 : STx) (T1 : STx) (Rd : SRd) (Pg : SPg) (Pt : SPt) (Mk : SMk) (Lk : SLk) (Ck : SCk) (Jd : SJd) (Ld : SLd) (Pr : SPr) (rt2 : Nat) (Ni : SNI) (Np : SNP) (No : SNO) (Nx : SNX) (Nf : SNF) (Na : SNA) (Nh : SNH) (Nq : SNQ) (Nj : SNJ) (M0 : SMT) (M1 : SMT), va_D A (((o, .inl (cO, 1, .inr (.inl f))) :: o_cw ad ca rt Sj T0 T1 Rd Pg Pt Mk Lk Ck Jd Ld Pr) ++ m_cw ad2 ca2 ky ty rt2 Ni Np No Nx Nf Na Nh Nq Nj M0 M1)) (hi1 : vp_in (i + (1:Int32)) L) (hi2 : vp_in (i + (2:Int32)) L) (hi3 : vp_in (i + (3:Int32)) L) (hi4 : vp_in (i + (4:Int32)) L) (hi5 : vp_in (i + (5:Int32)) L) (hcs : cells + 1 ≤ room_1.cells) (hss : slots + 6 ≤ room_1.slots) (n : Nat) (n2 : Nat) (Sj : SSJ) (T0 : STx) (T1 : STx) (Rd : SRd) (Pg : SPg) (Pt : SPt) (Mk : SMk) (Lk : SLk) (Ck : SCk) (Jd : SJd) (Ld : SLd) (Pr : SPr) (rt : Nat) (rt2 : Nat) (Ni : SNI) (Np : SNP) (No : SNO) (Nx : SNX) (Nf : SNF) (Na : SNA) (Nh : SNH) (Nq : SNQ) (Nj : SNJ) (M0 : SMT) (M1 : SMT) (f : Nat → Int64) (Pg' : SPg) (Pt' : SPt) (v : Int32) (v2 : Int32) (Ni' : SNI) (Np' : SNP) (No' : SNO) (Nx' : SNX) (rt2' : Nat) (h : m_SJ_matches n (xs (i + (1:Int32)).toNatClampNeg) (xs (i + (2:Int32)).toNatClampNeg) T1 Pg Pt = some (1, v, Pg', Pt')) (h2 : m_MM_matches_1 n2 (xs (i + (1:Int32)).toNatClampNeg) (xs (i + (2:Int32)).toNatClampNeg) M1 Ni Np No Nx rt2 = some (v2, Ni', Np', No', Nx', rt2')) (hP1 : va_P D1 o_cls ((o, .inl (cO, 1, .inr (.inl f))) :: o_cw ad ca rt Sj T0 T1 Rd Pg Pt Mk Lk Ck Jd Ld Pr) H) (hP2 : va_P D2 m_cls (m_cw ad2 ca2 ky ty rt2 Ni Np No Nx Nf Na Nh Nq Nj M0 M1) H) (hS : va_S A s.heap H locs) (hl : lv_has ls 7 [(0, .ref b), (1, .ref (ad 0)), (2, .ref (ad2 0)), (3, .ref o), (4, .int i)]) (kk : ∀ (H : Heap) (locs : List Loc) (ls : Array Slot), va_P D1 o_cls ((o, .inl (cO, 1, .inr (.inl f))) :: o_cw ad ca rt Sj T0 T1 Rd Pg' Pt' Mk Lk Ck Jd Ld Pr) H → va_P D2 m_cls (m_cw ad2 ca2 ky ty rt2' Ni' Np' No' Nx' Nf Na Nh Nq Nj M0 M1) H → va_S A s.heap H locs → lv_has ls 7 [(0, .ref b), (1, .ref (ad 0)), (2, .ref (ad2 0)), (3, .ref o), (4, .int i)] → W p l e room_1 s m args below meth c H locs (cells + 1) (slots + 6) Q (F0 m 574 ls [])) : W p l e room_1 s m args below meth c H locs cells slots Q (F0 m 506 ls []) := by
  have C0 := C1
  obtain ⟨hx, hb, -, -, -, hown, hts, hK1, -, -⟩ := C0
  refine lv_aload_n hx hb d_LW_law_506 rfl (lv_at hl 1 rfl) ?_
  refine lv_aload_n hx hb d_LW_law_507 rfl (lv_at hl 0 rfl) ?_
  refine lv_iload hx hb d_LW_law_508 (lv_at hl 4 rfl) ?_
  refine lv_iconst (v := (1:Int32)) hx hb d_LW_law_510 (by decide) ?_
  refine lv_iadd hx hb d_LW_law_511 ?_
  refine va_sld hx hb hX hbl hbA hS hi1 d_LW_law_512 ?_
  refine lv_aload_n hx hb d_LW_law_513 rfl (lv_at hl 0 rfl) ?_
  refine lv_iload hx hb d_LW_law_514 (lv_at hl 4 rfl) ?_
  refine lv_iconst (v := (2:Int32)) hx hb d_LW_law_516 (by decide) ?_
  refine lv_iadd hx hb d_LW_law_517 ?_
  refine va_sld hx hb hX hbl hbA hS hi2 d_LW_law_518 ?_
  refine lv_aload_n hx hb d_LW_law_519 rfl (lv_at hl 3 rfl) ?_
  refine o_SW (rest := []) (st1 := [.int (1:Int32)]) (As := [.ref (ad 0), .int (xs (i + (1:Int32)).toNatClampNeg), .int (xs (i + (2:Int32)).toNatClampNeg), .ref o]) hE.1 C1 (lh_matches_1 hE hT l hfl n (xs (i + (1:Int32)).toNatClampNeg) (xs (i + (2:Int32)).toNatClampNeg) Sj T0 T1 Rd Pg Pt Mk Lk Ck Jd Ld Pr Pg' Pt' rt v f h) hK1 hP1 (o_Dl (hDD f rt Sj T0 T1 Rd Pg Pt Mk Lk Ck Jd Ld Pr rt2 Ni Np No Nx Nf Na Nh Nq Nj M0 M1)) hS hl.1 k_7_60 k_7_61 k_1_0 kw_LW_matches hs_LW_matches rfl rfl ⟨(Nat.le_of_ble_eq_true rfl), (Nat.le_of_ble_eq_true rfl)⟩ rfl (Nat.le_of_ble_eq_true rfl) ⟨hcs, hss⟩ rfl d_LW_law_520 (fun H1 locs1 hQ1 hk hS1 => ?_)
  have hP2 := o_keep2 (hDD f rt Sj T0 T1 Rd Pg Pt Mk Lk Ck Jd Ld Pr rt2 Ni Np No Nx Nf Na Nh Nq Nj M0 M1) hP2 hk
  have hP1 := hQ1
  have hS := hS1
  refine lv_istore (lv' := [(5, .int (1:Int32)), (0, .ref b), (1, .ref (ad 0)), (2, .ref (ad2 0)), (3, .ref o), (4, .int i)]) hx hb d_LW_law_523 hl (by decide) rfl (fun ls hl => ?_)
  refine lv_aload_n hx hb d_LW_law_525 rfl (lv_at hl 3 rfl) ?_
  refine lv_aload_n hx hb d_LW_law_526 rfl (lv_at hl 1 rfl) ?_
  refine lv_iload hx hb d_LW_law_527 (lv_at hl 5 rfl) ?_
  refine lv_iconst (v := (1:Int32)) hx hb d_LW_law_529 (by decide) ?_
  refine lv_iadd hx hb d_LW_law_530 ?_
  refine va_sld hx hb hX hbl hbA hS hi1 d_LW_law_531 ?_
  refine lv_aload_n hx hb d_LW_law_532 rfl (lv_at hl 1 rfl) ?_
  refine lv_iload hx hb d_LW_law_533 (lv_at hl 5 rfl) ?_
  refine lv_iconst (v := (2:Int32)) hx hb d_LW_law_535 (by decide) ?_
  refine lv_iadd hx hb d_LW_law_536 ?_
  refine va_sld hx hb hX hbl hbA hS hi2 d_LW_law_537 ?_
  refine o_VF (rest := []) (st1 := [.int v2]) (As := [.int (xs (i + (1:Int32)).toNatClampNeg), .int (xs (i + (2:Int32)).toNatClampNeg)]) (w1 := (m_cw ad2 ca2 ky ty rt2' Ni' Np' No' Nx' Nf Na Nh Nq Nj M0 M1)) hE.1 C2 (e_MM_matches_1 hE hKy l n2 (xs (i + (1:Int32)).toNatClampNeg) (xs (i + (2:Int32)).toNatClampNeg) M1 Ni Np No Nx rt2 Nf Na Nh Nq Nj M0 h2) hP2 (o_Dr (hDD f rt Sj T0 T1 Rd Pg' Pt' Mk Lk Ck Jd Ld Pr rt2 Ni Np No Nx Nf Na Nh Nq Nj M0 M1)) hS hl.1 rfl mw_0 k_10_92 k_10_93 k_10_94 k_1_12 k_10_95 hv_MM_matches_1 rfl rfl ⟨(Nat.le_of_ble_eq_true rfl), (Nat.le_of_ble_eq_true rfl)⟩ rfl (Nat.le_of_ble_eq_true rfl) ⟨by omega, by omega⟩ rfl d_LW_law_538 (fun H1 locs1 hQ2 hk hS1 => ?_)
  have hP1 := o_keep1 (hDD f rt Sj T0 T1 Rd Pg' Pt' Mk Lk Ck Jd Ld Pr rt2 Ni Np No Nx Nf Na Nh Nq Nj M0 M1) hP1 hk
  have hP2 := hQ2
  have hS := hS1
  refine lv_istore (lv' := [(6, .int v2), (5, .int (1:Int32)), (0, .ref b), (1, .ref (ad 0)), (2, .ref (ad2 0)), (3, .ref o), (4, .int i)]) hx hb d_LW_law_541 hl (by decide) rfl (fun ls hl => ?_)
  refine lv_goto (tgt := 574) hx hb d_LW_law_543 (by decide) ?_
  exact kk _ _ _ hP1 hP2 hS (lv_sub hl [2, 3, 4, 5, 6] rfl)
set_option maxHeartbeats 4000000 in
set_option maxRecDepth 100000 in
theorem la_matches_2 {E : (Nat → Prop) → State → Heap → Prop} {p : Program} {l : Launch} {e : Env} {s : State} {m : MethodId} {args : Array Value} {below : List Frame} {meth : Method} {c : Code} {D1 D2 : va_G} {ad ad2 kd sd vd xd : Nat → Nat} {ca ca2 : Nat → ClassId} {ky ty : Nat → Option Nat} {cO : ClassId} {o b L : Nat} {xs : Nat → Int32} {A : Nat → Prop} {Q : State → Prop} {H : Heap} {locs : List Loc} {cells slots : Nat} {ls : Array Slot} {i : Int32} (hE : o_EK E kd sd vd xd) (hKy : m_KY ky ty sd) (hT : o_ET E) (hfl : l.flags = pinnedFlags ++ [noTraceFlag]) (C1 : o_Cx E p s m args meth c D1 o_cls ((cO, .long) :: o_tys ca) "SchemaJudgeLaw" code (some .boolean) 7 (.tt) A) (C1a : o_Cx E p s m args meth c D1 o_cls (o_tys ca) "SchemaJudgeLaw" code (some .boolean) 7 (.tt) A) (C2 : o_Cx E p s m args meth c D2 m_cls (m_tys ca2) "SchemaJudgeLaw" code (some .boolean) 7 (.tt) A) (hX : va_X b L xs s s.heap) (hbl : b < s.heap.size) (hbA : ¬ A b) (hDD : ∀ (f : Nat → Int64) (rt : Nat) (Sj : SSJ) (T0 : STx) (T1 : STx) (Rd : SRd) (Pg : SPg) (Pt : SPt) (Mk : SMk) (Lk : SLk) (Ck : SCk) (Jd : SJd) (Ld : SLd) (Pr : SPr) (rt2 : Nat) (Ni : SNI) (Np : SNP) (No : SNO) (Nx : SNX) (Nf : SNF) (Na : SNA) (Nh : SNH) (Nq : SNQ) (Nj : SNJ) (M0 : SMT) (M1 : SMT), va_D A (((o, .inl (cO, 1, .inr (.inl f))) :: o_cw ad ca rt Sj T0 T1 Rd Pg Pt Mk Lk Ck Jd Ld Pr) ++ m_cw ad2 ca2 ky ty rt2 Ni Np No Nx Nf Na Nh Nq Nj M0 M1)) (hi1 : vp_in (i + (1:Int32)) L) (hi2 : vp_in (i + (2:Int32)) L) (hi3 : vp_in (i + (3:Int32)) L) (hi4 : vp_in (i + (4:Int32)) L) (hi5 : vp_in (i + (5:Int32)) L) (hcs : cells + 1 ≤ room_1.cells) (hss : slots + 6 ≤ room_1.slots) (n : Nat) (n2 : Nat) (Sj : SSJ) (T0 : STx) (T1 : STx) (Rd : SRd) (Pg : SPg) (Pt : SPt) (Mk : SMk) (Lk : SLk) (Ck : SCk) (Jd : SJd) (Ld : SLd) (Pr : SPr) (rt : Nat) (rt2 : Nat) (Ni : SNI) (Np : SNP) (No : SNO) (Nx : SNX) (Nf : SNF) (Na : SNA) (Nh : SNH) (Nq : SNQ) (Nj : SNJ) (M0 : SMT) (M1 : SMT) (f : Nat → Int64) (Pg' : SPg) (Pt' : SPt) (v : Int32) (v2 : Int32) (Ni' : SNI) (Np' : SNP) (No' : SNO) (Nx' : SNX) (rt2' : Nat) (h : m_SJ_matches n (xs (i + (1:Int32)).toNatClampNeg) (xs (i + (2:Int32)).toNatClampNeg) T1 Pg Pt = some (2, v, Pg', Pt')) (h2 : m_MM_matches_1 n2 (xs (i + (1:Int32)).toNatClampNeg) (xs (i + (2:Int32)).toNatClampNeg) M1 Ni Np No Nx rt2 = some (v2, Ni', Np', No', Nx', rt2')) (hP1 : va_P D1 o_cls ((o, .inl (cO, 1, .inr (.inl f))) :: o_cw ad ca rt Sj T0 T1 Rd Pg Pt Mk Lk Ck Jd Ld Pr) H) (hP2 : va_P D2 m_cls (m_cw ad2 ca2 ky ty rt2 Ni Np No Nx Nf Na Nh Nq Nj M0 M1) H) (hS : va_S A s.heap H locs) (hl : lv_has ls 7 [(0, .ref b), (1, .ref (ad 0)), (2, .ref (ad2 0)), (3, .ref o), (4, .int i)]) (kk : ∀ (H : Heap) (locs : List Loc) (ls : Array Slot), va_P D1 o_cls ((o, .inl (cO, 1, .inr (.inl f))) :: o_cw ad ca rt Sj T0 T1 Rd Pg' Pt' Mk Lk Ck Jd Ld Pr) H → va_P D2 m_cls (m_cw ad2 ca2 ky ty rt2' Ni' Np' No' Nx' Nf Na Nh Nq Nj M0 M1) H → va_S A s.heap H locs → lv_has ls 7 [(0, .ref b), (1, .ref (ad 0)), (2, .ref (ad2 0)), (3, .ref o), (4, .int i)] → W p l e room_1 s m args below meth c H locs (cells + 1) (slots + 6) Q (F0 m 574 ls [])) : W p l e room_1 s m args below meth c H locs cells slots Q (F0 m 506 ls []) := by
  have C0 := C1
  obtain ⟨hx, hb, -, -, -, hown, hts, hK1, -, -⟩ := C0
  refine lv_aload_n hx hb d_LW_law_506 rfl (lv_at hl 1 rfl) ?_
  refine lv_aload_n hx hb d_LW_law_507 rfl (lv_at hl 0 rfl) ?_
  refine lv_iload hx hb d_LW_law_508 (lv_at hl 4 rfl) ?_
  refine lv_iconst (v := (1:Int32)) hx hb d_LW_law_510 (by decide) ?_
  refine lv_iadd hx hb d_LW_law_511 ?_
  refine va_sld hx hb hX hbl hbA hS hi1 d_LW_law_512 ?_
  refine lv_aload_n hx hb d_LW_law_513 rfl (lv_at hl 0 rfl) ?_
  refine lv_iload hx hb d_LW_law_514 (lv_at hl 4 rfl) ?_
  refine lv_iconst (v := (2:Int32)) hx hb d_LW_law_516 (by decide) ?_
  refine lv_iadd hx hb d_LW_law_517 ?_
  refine va_sld hx hb hX hbl hbA hS hi2 d_LW_law_518 ?_
  refine lv_aload_n hx hb d_LW_law_519 rfl (lv_at hl 3 rfl) ?_
  refine o_SW (rest := []) (st1 := [.int (2:Int32)]) (As := [.ref (ad 0), .int (xs (i + (1:Int32)).toNatClampNeg), .int (xs (i + (2:Int32)).toNatClampNeg), .ref o]) hE.1 C1 (lh_matches_2 hE hT l hfl n (xs (i + (1:Int32)).toNatClampNeg) (xs (i + (2:Int32)).toNatClampNeg) Sj T0 T1 Rd Pg Pt Mk Lk Ck Jd Ld Pr Pg' Pt' rt v f h) hK1 hP1 (o_Dl (hDD f rt Sj T0 T1 Rd Pg Pt Mk Lk Ck Jd Ld Pr rt2 Ni Np No Nx Nf Na Nh Nq Nj M0 M1)) hS hl.1 k_7_60 k_7_61 k_1_0 kw_LW_matches hs_LW_matches rfl rfl ⟨(Nat.le_of_ble_eq_true rfl), (Nat.le_of_ble_eq_true rfl)⟩ rfl (Nat.le_of_ble_eq_true rfl) ⟨hcs, hss⟩ rfl d_LW_law_520 (fun H1 locs1 hQ1 hk hS1 => ?_)
  have hP2 := o_keep2 (hDD f rt Sj T0 T1 Rd Pg Pt Mk Lk Ck Jd Ld Pr rt2 Ni Np No Nx Nf Na Nh Nq Nj M0 M1) hP2 hk
  have hP1 := hQ1
  have hS := hS1
  refine lv_istore (lv' := [(5, .int (2:Int32)), (0, .ref b), (1, .ref (ad 0)), (2, .ref (ad2 0)), (3, .ref o), (4, .int i)]) hx hb d_LW_law_523 hl (by decide) rfl (fun ls hl => ?_)
  refine lv_aload_n hx hb d_LW_law_525 rfl (lv_at hl 3 rfl) ?_
  refine lv_aload_n hx hb d_LW_law_526 rfl (lv_at hl 1 rfl) ?_
  refine lv_iload hx hb d_LW_law_527 (lv_at hl 5 rfl) ?_
  refine lv_iconst (v := (1:Int32)) hx hb d_LW_law_529 (by decide) ?_
  refine lv_iadd hx hb d_LW_law_530 ?_
  refine va_sld hx hb hX hbl hbA hS hi1 d_LW_law_531 ?_
  refine lv_aload_n hx hb d_LW_law_532 rfl (lv_at hl 1 rfl) ?_
  refine lv_iload hx hb d_LW_law_533 (lv_at hl 5 rfl) ?_
  refine lv_iconst (v := (2:Int32)) hx hb d_LW_law_535 (by decide) ?_
  refine lv_iadd hx hb d_LW_law_536 ?_
  refine va_sld hx hb hX hbl hbA hS hi2 d_LW_law_537 ?_
  refine o_VF (rest := []) (st1 := [.int v2]) (As := [.int (xs (i + (1:Int32)).toNatClampNeg), .int (xs (i + (2:Int32)).toNatClampNeg)]) (w1 := (m_cw ad2 ca2 ky ty rt2' Ni' Np' No' Nx' Nf Na Nh Nq Nj M0 M1)) hE.1 C2 (e_MM_matches_1 hE hKy l n2 (xs (i + (1:Int32)).toNatClampNeg) (xs (i + (2:Int32)).toNatClampNeg) M1 Ni Np No Nx rt2 Nf Na Nh Nq Nj M0 h2) hP2 (o_Dr (hDD f rt Sj T0 T1 Rd Pg' Pt' Mk Lk Ck Jd Ld Pr rt2 Ni Np No Nx Nf Na Nh Nq Nj M0 M1)) hS hl.1 rfl mw_0 k_10_92 k_10_93 k_10_94 k_1_12 k_10_95 hv_MM_matches_1 rfl rfl ⟨(Nat.le_of_ble_eq_true rfl), (Nat.le_of_ble_eq_true rfl)⟩ rfl (Nat.le_of_ble_eq_true rfl) ⟨by omega, by omega⟩ rfl d_LW_law_538 (fun H1 locs1 hQ2 hk hS1 => ?_)
  have hP1 := o_keep1 (hDD f rt Sj T0 T1 Rd Pg' Pt' Mk Lk Ck Jd Ld Pr rt2 Ni Np No Nx Nf Na Nh Nq Nj M0 M1) hP1 hk
  have hP2 := hQ2
  have hS := hS1
  refine lv_istore (lv' := [(6, .int v2), (5, .int (2:Int32)), (0, .ref b), (1, .ref (ad 0)), (2, .ref (ad2 0)), (3, .ref o), (4, .int i)]) hx hb d_LW_law_541 hl (by decide) rfl (fun ls hl => ?_)
  refine lv_goto (tgt := 574) hx hb d_LW_law_543 (by decide) ?_
  exact kk _ _ _ hP1 hP2 hS (lv_sub hl [2, 3, 4, 5, 6] rfl)
set_option maxHeartbeats 4000000 in
set_option maxRecDepth 100000 in
theorem la_count_0 {E : (Nat → Prop) → State → Heap → Prop} {p : Program} {l : Launch} {e : Env} {s : State} {m : MethodId} {args : Array Value} {below : List Frame} {meth : Method} {c : Code} {D1 D2 : va_G} {ad ad2 kd sd vd xd : Nat → Nat} {ca ca2 : Nat → ClassId} {ky ty : Nat → Option Nat} {cO : ClassId} {o b L : Nat} {xs : Nat → Int32} {A : Nat → Prop} {Q : State → Prop} {H : Heap} {locs : List Loc} {cells slots : Nat} {ls : Array Slot} {i : Int32} (hE : o_EK E kd sd vd xd) (hKy : m_KY ky ty sd) (hT : o_ET E) (hfl : l.flags = pinnedFlags ++ [noTraceFlag]) (C1 : o_Cx E p s m args meth c D1 o_cls ((cO, .long) :: o_tys ca) "SchemaJudgeLaw" code (some .boolean) 7 (.tt) A) (C1a : o_Cx E p s m args meth c D1 o_cls (o_tys ca) "SchemaJudgeLaw" code (some .boolean) 7 (.tt) A) (C2 : o_Cx E p s m args meth c D2 m_cls (m_tys ca2) "SchemaJudgeLaw" code (some .boolean) 7 (.tt) A) (hX : va_X b L xs s s.heap) (hbl : b < s.heap.size) (hbA : ¬ A b) (hDD : ∀ (f : Nat → Int64) (rt : Nat) (Sj : SSJ) (T0 : STx) (T1 : STx) (Rd : SRd) (Pg : SPg) (Pt : SPt) (Mk : SMk) (Lk : SLk) (Ck : SCk) (Jd : SJd) (Ld : SLd) (Pr : SPr) (rt2 : Nat) (Ni : SNI) (Np : SNP) (No : SNO) (Nx : SNX) (Nf : SNF) (Na : SNA) (Nh : SNH) (Nq : SNQ) (Nj : SNJ) (M0 : SMT) (M1 : SMT), va_D A (((o, .inl (cO, 1, .inr (.inl f))) :: o_cw ad ca rt Sj T0 T1 Rd Pg Pt Mk Lk Ck Jd Ld Pr) ++ m_cw ad2 ca2 ky ty rt2 Ni Np No Nx Nf Na Nh Nq Nj M0 M1)) (hi1 : vp_in (i + (1:Int32)) L) (hi2 : vp_in (i + (2:Int32)) L) (hi3 : vp_in (i + (3:Int32)) L) (hi4 : vp_in (i + (4:Int32)) L) (hi5 : vp_in (i + (5:Int32)) L) (hcs : cells + 1 ≤ room_1.cells) (hss : slots + 6 ≤ room_1.slots) (Sj : SSJ) (T0 : STx) (T1 : STx) (Rd : SRd) (Pg : SPg) (Pt : SPt) (Mk : SMk) (Lk : SLk) (Ck : SCk) (Jd : SJd) (Ld : SLd) (Pr : SPr) (rt : Nat) (rt2 : Nat) (Ni : SNI) (Np : SNP) (No : SNO) (Nx : SNX) (Nf : SNF) (Na : SNA) (Nh : SNH) (Nq : SNQ) (Nj : SNJ) (M0 : SMT) (M1 : SMT) (f : Nat → Int64) (v : Int32) (v2 : Int32) (Ni' : SNI) (h : m_SJ_count (xs (i + (1:Int32)).toNatClampNeg) T0 T1 Jd = some (0, v)) (h2 : m_MM_count (xs (i + (1:Int32)).toNatClampNeg) M0 M1 Ni Nj = some (v2, Ni')) (hP1 : va_P D1 o_cls ((o, .inl (cO, 1, .inr (.inl f))) :: o_cw ad ca rt Sj T0 T1 Rd Pg Pt Mk Lk Ck Jd Ld Pr) H) (hP2 : va_P D2 m_cls (m_cw ad2 ca2 ky ty rt2 Ni Np No Nx Nf Na Nh Nq Nj M0 M1) H) (hS : va_S A s.heap H locs) (hl : lv_has ls 7 [(0, .ref b), (1, .ref (ad 0)), (2, .ref (ad2 0)), (3, .ref o), (4, .int i)]) (kk : ∀ (H : Heap) (locs : List Loc) (ls : Array Slot), va_P D1 o_cls ((o, .inl (cO, 1, .inr (.inl (vp_updL f 0 v.toInt64)))) :: o_cw ad ca rt Sj T0 T1 Rd Pg Pt Mk Lk Ck Jd Ld Pr) H → va_P D2 m_cls (m_cw ad2 ca2 ky ty rt2 Ni' Np No Nx Nf Na Nh Nq Nj M0 M1) H → va_S A s.heap H locs → lv_has ls 7 [(0, .ref b), (1, .ref (ad 0)), (2, .ref (ad2 0)), (3, .ref o), (4, .int i)] → W p l e room_1 s m args below meth c H locs (cells + 1) (slots + 6) Q (F0 m 574 ls [])) : W p l e room_1 s m args below meth c H locs cells slots Q (F0 m 546 ls []) := by
  have C0 := C1
  obtain ⟨hx, hb, -, -, -, hown, hts, hK1, -, -⟩ := C0
  refine lv_aload_n hx hb d_LW_law_546 rfl (lv_at hl 1 rfl) ?_
  refine lv_aload_n hx hb d_LW_law_547 rfl (lv_at hl 0 rfl) ?_
  refine lv_iload hx hb d_LW_law_548 (lv_at hl 4 rfl) ?_
  refine lv_iconst (v := (1:Int32)) hx hb d_LW_law_550 (by decide) ?_
  refine lv_iadd hx hb d_LW_law_551 ?_
  refine va_sld hx hb hX hbl hbA hS hi1 d_LW_law_552 ?_
  refine lv_aload_n hx hb d_LW_law_553 rfl (lv_at hl 3 rfl) ?_
  refine o_SW (rest := []) (st1 := [.int (0:Int32)]) (As := [.ref (ad 0), .int (xs (i + (1:Int32)).toNatClampNeg), .ref o]) hE.1 C1 (lh_count_0 hE hT l hfl (xs (i + (1:Int32)).toNatClampNeg) Sj T0 T1 Rd Pg Pt Mk Lk Ck Jd Ld Pr rt v f h) hK1 hP1 (o_Dl (hDD f rt Sj T0 T1 Rd Pg Pt Mk Lk Ck Jd Ld Pr rt2 Ni Np No Nx Nf Na Nh Nq Nj M0 M1)) hS hl.1 k_7_72 k_7_73 k_1_0 kw_LW_count hs_LW_count rfl rfl ⟨(Nat.le_of_ble_eq_true rfl), (Nat.le_of_ble_eq_true rfl)⟩ rfl (Nat.le_of_ble_eq_true rfl) ⟨hcs, hss⟩ rfl d_LW_law_554 (fun H1 locs1 hQ1 hk hS1 => ?_)
  have hP2 := o_keep2 (hDD f rt Sj T0 T1 Rd Pg Pt Mk Lk Ck Jd Ld Pr rt2 Ni Np No Nx Nf Na Nh Nq Nj M0 M1) hP2 hk
  have hP1 := hQ1
  have hS := hS1
  refine lv_istore (lv' := [(5, .int (0:Int32)), (0, .ref b), (1, .ref (ad 0)), (2, .ref (ad2 0)), (3, .ref o), (4, .int i)]) hx hb d_LW_law_557 hl (by decide) rfl (fun ls hl => ?_)
  refine lv_aload_n hx hb d_LW_law_559 rfl (lv_at hl 3 rfl) ?_
  refine lv_aload_n hx hb d_LW_law_560 rfl (lv_at hl 1 rfl) ?_
  refine lv_iload hx hb d_LW_law_561 (lv_at hl 5 rfl) ?_
  refine lv_iconst (v := (1:Int32)) hx hb d_LW_law_563 (by decide) ?_
  refine lv_iadd hx hb d_LW_law_564 ?_
  refine va_sld hx hb hX hbl hbA hS hi1 d_LW_law_565 ?_
  refine o_VF (rest := []) (st1 := [.int v2]) (As := [.int (xs (i + (1:Int32)).toNatClampNeg)]) (w1 := (m_cw ad2 ca2 ky ty rt2 Ni' Np No Nx Nf Na Nh Nq Nj M0 M1)) hE.1 C2 (e_MM_count hE hKy l (xs (i + (1:Int32)).toNatClampNeg) M0 M1 Ni Nj Np No Nx Nf Na Nh Nq rt2 h2) hP2 (o_Dr (hDD (vp_updL f 0 v.toInt64) rt Sj T0 T1 Rd Pg Pt Mk Lk Ck Jd Ld Pr rt2 Ni Np No Nx Nf Na Nh Nq Nj M0 M1)) hS hl.1 rfl mw_0 k_10_96 k_10_97 k_10_98 k_1_12 k_10_99 hv_MM_count rfl rfl ⟨(Nat.le_of_ble_eq_true rfl), (Nat.le_of_ble_eq_true rfl)⟩ rfl (Nat.le_of_ble_eq_true rfl) ⟨by omega, by omega⟩ rfl d_LW_law_566 (fun H1 locs1 hQ2 hk hS1 => ?_)
  have hP1 := o_keep1 (hDD (vp_updL f 0 v.toInt64) rt Sj T0 T1 Rd Pg Pt Mk Lk Ck Jd Ld Pr rt2 Ni Np No Nx Nf Na Nh Nq Nj M0 M1) hP1 hk
  have hP2 := hQ2
  have hS := hS1
  refine lv_istore (lv' := [(6, .int v2), (5, .int (0:Int32)), (0, .ref b), (1, .ref (ad 0)), (2, .ref (ad2 0)), (3, .ref o), (4, .int i)]) hx hb d_LW_law_569 hl (by decide) rfl (fun ls hl => ?_)
  refine lv_goto (tgt := 574) hx hb d_LW_law_571 (by decide) ?_
  exact kk _ _ _ hP1 hP2 hS (lv_sub hl [2, 3, 4, 5, 6] rfl)
set_option maxHeartbeats 4000000 in
set_option maxRecDepth 100000 in
theorem la_count_2 {E : (Nat → Prop) → State → Heap → Prop} {p : Program} {l : Launch} {e : Env} {s : State} {m : MethodId} {args : Array Value} {below : List Frame} {meth : Method} {c : Code} {D1 D2 : va_G} {ad ad2 kd sd vd xd : Nat → Nat} {ca ca2 : Nat → ClassId} {ky ty : Nat → Option Nat} {cO : ClassId} {o b L : Nat} {xs : Nat → Int32} {A : Nat → Prop} {Q : State → Prop} {H : Heap} {locs : List Loc} {cells slots : Nat} {ls : Array Slot} {i : Int32} (hE : o_EK E kd sd vd xd) (hKy : m_KY ky ty sd) (hT : o_ET E) (hfl : l.flags = pinnedFlags ++ [noTraceFlag]) (C1 : o_Cx E p s m args meth c D1 o_cls ((cO, .long) :: o_tys ca) "SchemaJudgeLaw" code (some .boolean) 7 (.tt) A) (C1a : o_Cx E p s m args meth c D1 o_cls (o_tys ca) "SchemaJudgeLaw" code (some .boolean) 7 (.tt) A) (C2 : o_Cx E p s m args meth c D2 m_cls (m_tys ca2) "SchemaJudgeLaw" code (some .boolean) 7 (.tt) A) (hX : va_X b L xs s s.heap) (hbl : b < s.heap.size) (hbA : ¬ A b) (hDD : ∀ (f : Nat → Int64) (rt : Nat) (Sj : SSJ) (T0 : STx) (T1 : STx) (Rd : SRd) (Pg : SPg) (Pt : SPt) (Mk : SMk) (Lk : SLk) (Ck : SCk) (Jd : SJd) (Ld : SLd) (Pr : SPr) (rt2 : Nat) (Ni : SNI) (Np : SNP) (No : SNO) (Nx : SNX) (Nf : SNF) (Na : SNA) (Nh : SNH) (Nq : SNQ) (Nj : SNJ) (M0 : SMT) (M1 : SMT), va_D A (((o, .inl (cO, 1, .inr (.inl f))) :: o_cw ad ca rt Sj T0 T1 Rd Pg Pt Mk Lk Ck Jd Ld Pr) ++ m_cw ad2 ca2 ky ty rt2 Ni Np No Nx Nf Na Nh Nq Nj M0 M1)) (hi1 : vp_in (i + (1:Int32)) L) (hi2 : vp_in (i + (2:Int32)) L) (hi3 : vp_in (i + (3:Int32)) L) (hi4 : vp_in (i + (4:Int32)) L) (hi5 : vp_in (i + (5:Int32)) L) (hcs : cells + 1 ≤ room_1.cells) (hss : slots + 6 ≤ room_1.slots) (Sj : SSJ) (T0 : STx) (T1 : STx) (Rd : SRd) (Pg : SPg) (Pt : SPt) (Mk : SMk) (Lk : SLk) (Ck : SCk) (Jd : SJd) (Ld : SLd) (Pr : SPr) (rt : Nat) (rt2 : Nat) (Ni : SNI) (Np : SNP) (No : SNO) (Nx : SNX) (Nf : SNF) (Na : SNA) (Nh : SNH) (Nq : SNQ) (Nj : SNJ) (M0 : SMT) (M1 : SMT) (f : Nat → Int64) (v : Int32) (v2 : Int32) (Ni' : SNI) (h : m_SJ_count (xs (i + (1:Int32)).toNatClampNeg) T0 T1 Jd = some (2, v)) (h2 : m_MM_count (xs (i + (1:Int32)).toNatClampNeg) M0 M1 Ni Nj = some (v2, Ni')) (hP1 : va_P D1 o_cls ((o, .inl (cO, 1, .inr (.inl f))) :: o_cw ad ca rt Sj T0 T1 Rd Pg Pt Mk Lk Ck Jd Ld Pr) H) (hP2 : va_P D2 m_cls (m_cw ad2 ca2 ky ty rt2 Ni Np No Nx Nf Na Nh Nq Nj M0 M1) H) (hS : va_S A s.heap H locs) (hl : lv_has ls 7 [(0, .ref b), (1, .ref (ad 0)), (2, .ref (ad2 0)), (3, .ref o), (4, .int i)]) (kk : ∀ (H : Heap) (locs : List Loc) (ls : Array Slot), va_P D1 o_cls ((o, .inl (cO, 1, .inr (.inl f))) :: o_cw ad ca rt Sj T0 T1 Rd Pg Pt Mk Lk Ck Jd Ld Pr) H → va_P D2 m_cls (m_cw ad2 ca2 ky ty rt2 Ni' Np No Nx Nf Na Nh Nq Nj M0 M1) H → va_S A s.heap H locs → lv_has ls 7 [(0, .ref b), (1, .ref (ad 0)), (2, .ref (ad2 0)), (3, .ref o), (4, .int i)] → W p l e room_1 s m args below meth c H locs (cells + 1) (slots + 6) Q (F0 m 574 ls [])) : W p l e room_1 s m args below meth c H locs cells slots Q (F0 m 546 ls []) := by
  have C0 := C1
  obtain ⟨hx, hb, -, -, -, hown, hts, hK1, -, -⟩ := C0
  refine lv_aload_n hx hb d_LW_law_546 rfl (lv_at hl 1 rfl) ?_
  refine lv_aload_n hx hb d_LW_law_547 rfl (lv_at hl 0 rfl) ?_
  refine lv_iload hx hb d_LW_law_548 (lv_at hl 4 rfl) ?_
  refine lv_iconst (v := (1:Int32)) hx hb d_LW_law_550 (by decide) ?_
  refine lv_iadd hx hb d_LW_law_551 ?_
  refine va_sld hx hb hX hbl hbA hS hi1 d_LW_law_552 ?_
  refine lv_aload_n hx hb d_LW_law_553 rfl (lv_at hl 3 rfl) ?_
  refine o_SW (rest := []) (st1 := [.int (1:Int32)]) (As := [.ref (ad 0), .int (xs (i + (1:Int32)).toNatClampNeg), .ref o]) hE.1 C1 (lh_count_2 hE hT l hfl (xs (i + (1:Int32)).toNatClampNeg) Sj T0 T1 Rd Pg Pt Mk Lk Ck Jd Ld Pr rt v f h) hK1 hP1 (o_Dl (hDD f rt Sj T0 T1 Rd Pg Pt Mk Lk Ck Jd Ld Pr rt2 Ni Np No Nx Nf Na Nh Nq Nj M0 M1)) hS hl.1 k_7_72 k_7_73 k_1_0 kw_LW_count hs_LW_count rfl rfl ⟨(Nat.le_of_ble_eq_true rfl), (Nat.le_of_ble_eq_true rfl)⟩ rfl (Nat.le_of_ble_eq_true rfl) ⟨hcs, hss⟩ rfl d_LW_law_554 (fun H1 locs1 hQ1 hk hS1 => ?_)
  have hP2 := o_keep2 (hDD f rt Sj T0 T1 Rd Pg Pt Mk Lk Ck Jd Ld Pr rt2 Ni Np No Nx Nf Na Nh Nq Nj M0 M1) hP2 hk
  have hP1 := hQ1
  have hS := hS1
  refine lv_istore (lv' := [(5, .int (1:Int32)), (0, .ref b), (1, .ref (ad 0)), (2, .ref (ad2 0)), (3, .ref o), (4, .int i)]) hx hb d_LW_law_557 hl (by decide) rfl (fun ls hl => ?_)
  refine lv_aload_n hx hb d_LW_law_559 rfl (lv_at hl 3 rfl) ?_
  refine lv_aload_n hx hb d_LW_law_560 rfl (lv_at hl 1 rfl) ?_
  refine lv_iload hx hb d_LW_law_561 (lv_at hl 5 rfl) ?_
  refine lv_iconst (v := (1:Int32)) hx hb d_LW_law_563 (by decide) ?_
  refine lv_iadd hx hb d_LW_law_564 ?_
  refine va_sld hx hb hX hbl hbA hS hi1 d_LW_law_565 ?_
  refine o_VF (rest := []) (st1 := [.int v2]) (As := [.int (xs (i + (1:Int32)).toNatClampNeg)]) (w1 := (m_cw ad2 ca2 ky ty rt2 Ni' Np No Nx Nf Na Nh Nq Nj M0 M1)) hE.1 C2 (e_MM_count hE hKy l (xs (i + (1:Int32)).toNatClampNeg) M0 M1 Ni Nj Np No Nx Nf Na Nh Nq rt2 h2) hP2 (o_Dr (hDD f rt Sj T0 T1 Rd Pg Pt Mk Lk Ck Jd Ld Pr rt2 Ni Np No Nx Nf Na Nh Nq Nj M0 M1)) hS hl.1 rfl mw_0 k_10_96 k_10_97 k_10_98 k_1_12 k_10_99 hv_MM_count rfl rfl ⟨(Nat.le_of_ble_eq_true rfl), (Nat.le_of_ble_eq_true rfl)⟩ rfl (Nat.le_of_ble_eq_true rfl) ⟨by omega, by omega⟩ rfl d_LW_law_566 (fun H1 locs1 hQ2 hk hS1 => ?_)
  have hP1 := o_keep1 (hDD f rt Sj T0 T1 Rd Pg Pt Mk Lk Ck Jd Ld Pr rt2 Ni Np No Nx Nf Na Nh Nq Nj M0 M1) hP1 hk
  have hP2 := hQ2
  have hS := hS1
  refine lv_istore (lv' := [(6, .int v2), (5, .int (1:Int32)), (0, .ref b), (1, .ref (ad 0)), (2, .ref (ad2 0)), (3, .ref o), (4, .int i)]) hx hb d_LW_law_569 hl (by decide) rfl (fun ls hl => ?_)
  refine lv_goto (tgt := 574) hx hb d_LW_law_571 (by decide) ?_
  exact kk _ _ _ hP1 hP2 hS (lv_sub hl [2, 3, 4, 5, 6] rfl)
