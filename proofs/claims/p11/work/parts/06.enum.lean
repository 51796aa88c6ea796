abbrev o_kF : List (String × String × String × List Int32) := [("java/lang/Enum", "ordinal", "I", o_kordinal), ("SchemaJudge$Keyword", "form", "I", o_kform), ("SchemaJudge$Keyword", "kind", "I", o_kkind), ("SchemaJudge$Keyword", "reach", "I", o_kreach)]
/-- what nobody writes: nest words; the keywords, their list, the switch's table; the Strings -/
def o_EK (E : (Nat → Prop) → State → Heap → Prop) (kd sd vd xd : Nat → Nat) : Prop :=
  o_Ek E ∧ (∀ (A : Nat → Prop) (U : State) (H : Heap), E A U H → ∀ w ∈ o_nws, va_Nw w U) ∧
  (∀ (A : Nat → Prop) (U : State) (H : Heap), E A U H → va_En "SchemaJudge$Keyword" "LSchemaJudge$Keyword;" o_kn o_kF kd A U H) ∧
  (∀ (A : Nat → Prop) (U : State) (H : Heap), E A U H → va_Z "SchemaJudge$Keyword" "ALL" "[LSchemaJudge$Keyword;" (.ref (xd 0)) A U H ∧ va_T (.object "SchemaJudge$Keyword") (xd 0) 45 (fun j => .ref (kd j)) A U H) ∧
  (∀ (A : Nat → Prop) (U : State) (H : Heap), E A U H → va_Z "SchemaJudge$1" "$SwitchMap$SchemaJudge$Keyword" "[I" (.ref (xd 1)) A U H ∧ va_T .int (xd 1) 45 (fun j => .int (sw_Keyword j)) A U H) ∧
  (∀ (A : Nat → Prop) (U : State) (H : Heap), E A U H → ∀ q ∈ o_srs, vk_R q.1 q.2.1 q.2.2.1 (sd q.2.2.2) U) ∧
  (∀ (A : Nat → Prop) (U : State) (H : Heap), E A U H → vk_S o_ns o_slen o_sbyt sd vd A U H) ∧
  (∀ (A : Nat → Prop) (U : State) (H : Heap), E A U H → va_Ef 45 "SchemaJudge$Keyword" "word" "Ljava/lang/String;" (fun i => .ref (sd (kw_str i))) kd A U H) ∧
  (∀ (A : Nat → Prop) (U : State) (H : Heap), E A U H → va_Z "java/lang/String" "COMPACT_STRINGS" "Z" (.int 1) A U H) ∧
  (∀ (A : Nat → Prop) (U : State) (H : Heap), E A U H → va_Zq "jdk/internal/util/Preconditions" "SIOOBE_FORMATTER" "Ljava/util/function/BiFunction;" A U H) ∧ True
theorem o_kl {k : Nat} (h : o_kb k = true) : k < 45 := by
  unfold o_kb at h
  simpa using h
theorem o_in_kb {i : Int32} (h : o_in i 45 = true) : o_kb i.toNatClampNeg = true := by
  unfold o_in at h
  unfold o_kb
  simp at h ⊢
  omega
theorem o_kn_ {kd : Nat → Nat} {a b : Nat} (c : ¬ some (kd a) = some (kd b)) : ¬ a = b := fun e => c (by rw [e])
theorem o_ord_at : ∀ k, k < 45 → o_kordinal.getD k 0 = nI k := by decide +kernel
section OEN
variable {E : (Nat → Prop) → State → Heap → Prop} {kd sd vd xd : Nat → Nat} {p : Program} {l : Launch} {e : Env} {R : Room} {s : State} {m : MethodId} {args : Array Value} {below : List Frame} {meth : Method} {c : Code} {H : Heap} {locs : List Loc} {cells slots : Nat} {Q : State → Prop}
variable {pc : Nat} {ls : Array Slot} {rest st0 st1 : List Value}
variable {D : va_G} {cl : List vw_C} {tys : List (ClassId × FieldType)} {own : String} {bc : ByteArray} {ret : Option FieldType} {nL : Nat} {cc : Cond} {A : Nat → Prop} {w0 : va_W} {index k a b : Nat}
theorem o_ki (hE : o_EK E kd sd vd xd) (C : o_Cx E p s m args meth c D cl tys own bc ret nL cc A) (ha : o_kb a = true) (hb : o_kb b = true) (h : some (kd a) = some (kd b)) : a = b :=
  (hE.2.2.1 _ _ _ C.2.2.2.2.2.2.2.2.2).2 a b (o_kl ha) (o_kl hb) (Option.some.inj h)
theorem o_rk (hE : o_EK E kd sd vd xd) (C : o_Cx E p s m args meth c D cl tys own bc ret nL cc A) (hk : o_kb k = true) (hS : va_S A s.heap H locs) : ∃ cell : Cell, H[kd k]? = some cell ∧ cell.vm.isStatics = false ∧ s.vm.findClass "SchemaJudge$Keyword" = some cell.cls :=
  va_recvE (hE.2.2.1 _ _ _ C.2.2.2.2.2.2.2.2.2) (o_kl hk) hS
theorem o_gk {fi : Nat} {v : Int32} {q : String × String × String × List Int32} (hE : o_EK E kd sd vd xd) (C : o_Cx E p s m args meth c D cl tys own bc ret nL cc A) (hk : o_kb k = true) (hS : va_S A s.heap H locs) (hq : o_kF[fi]? = some q) (hv : q.2.2.2.getD k 0 = v) (hlink : Cond.fieldLink own index q.1 q.2.1 q.2.2.1 ∈ o_WS) (hdg : decode bc pc = .ok (.getfield index, 3))
    (kk : W p l e R s m args below meth c H locs cells slots Q (F0 m (pc + 3) ls (.int v :: rest))) : W p l e R s m args below meth c H locs cells slots Q (F0 m pc ls (.ref (kd k) :: rest)) := by
  have he := hE.2.2.1 _ _ _ C.2.2.2.2.2.2.2.2.2
  obtain ⟨hx, hb, hr, hlk, hml, hown, hts, hK, hA, he2⟩ := C
  subst hv
  exact va_getE hx hb he (o_kl hk) hS hown (List.mem_of_getElem? hq) (hts _ hlink) (fun _ h => h) hdg kk
theorem o_gkN {fi : Nat} {v : Int32} {q : String × String × String × List Int32} {host : String} (hE : o_EK E kd sd vd xd) (C : o_Cx E p s m args meth c D cl tys own bc ret nL cc A) (hk : o_kb k = true) (hS : va_S A s.heap H locs) (hq : o_kF[fi]? = some q) (hv : q.2.2.2.getD k 0 = v) (hlink : Cond.fieldLinkNest own index q.1 q.2.1 q.2.2.1 host ∈ o_nws) (hdg : decode bc pc = .ok (.getfield index, 3))
    (kk : W p l e R s m args below meth c H locs cells slots Q (F0 m (pc + 3) ls (.int v :: rest))) : W p l e R s m args below meth c H locs cells slots Q (F0 m pc ls (.ref (kd k) :: rest)) := by
  have he := hE.2.2.1 _ _ _ C.2.2.2.2.2.2.2.2.2
  have hn := hE.2.1 _ _ _ C.2.2.2.2.2.2.2.2.2 _ hlink
  obtain ⟨hx, hb, hr, hlk, hml, hown, hts, hK, hA, he2⟩ := C
  subst hv
  obtain ⟨cf, k', fi', f, cell, h1, h2, h3, h4, h5, h6⟩ := ((he.1 k (o_kl hk)).2.2 q (List.mem_of_getElem? hq)).kept hS.2.1
  exact va_Wgetf hx hb hown (va_Nw.use rfl hn) h1 h2 h3 h4 (v := .int (q.2.2.2.getD k 0)) h5 rfl rfl hdg kk
theorem c_JE_ordinal (hE : o_EK E kd sd vd xd) (l : Launch) (k : Nat) (gk : o_kb k = true) : o_Cn E l D cl tys y_JE_ordinal cc_JE_ordinal { frames := 0, cells := 0, slots := 0, locals := 0 } [.ref (kd k)] w0 w0 (some (.int (nI k))) := by
  refine o_Cn_of (by decide) (Nat.le_of_ble_eq_true rfl) ?_
  intro p e s m below meth c A ls C hD hP hS hl
  have hl : lv_has ls 1 [(0, .ref (kd k))] := hl
  have C0 := C
  obtain ⟨hx, hb, -, -, -, hown, hts, hK, -, -⟩ := C0
  refine lv_aload_n hx hb (show decode b_JE_ordinal 0 = .ok (.aload_n 0, 1) by decide +kernel) rfl (lv_at hl 0 rfl) ?_
  refine o_gk (fi := 0) (v := nI k) hE C gk hS rfl (o_ord_at k (o_kl gk)) k_10_107 (show decode b_JE_ordinal 1 = .ok (.getfield 7, 3) by decide +kernel) ?_
  exact o_ri C hP hS (show decode b_JE_ordinal 4 = .ok (.ireturn, 1) by decide +kernel)
def y_KwO : MethodName := ⟨"SchemaJudge$Keyword", "ordinal", "()I"⟩
theorem o_ord_w {own : String} {index : Nat} (h1 : Cond.methodLink own index y_KwO ∈ o_WS) : GoodIn o_WS (va_wsU own index "SchemaJudge$Keyword" "java/lang/Enum" y_KwO y_JE_ordinal (cc_JE_ordinal :: o_WS)) := by
  have g : ∀ w ∈ o_WS, w ∈ o_WS ∧ ((w.onTables && w.keeps) = true ∨ ∃ ty, w = .arrayClass ty) := fun w h => ⟨h, good_of_word (List.mem_filter.mp h).2⟩
  intro w hw
  rcases List.mem_append.mp hw with hw | hw
  · rcases List.mem_cons.mp hw with rfl | hw
    · exact g _ h1
    rcases List.mem_cons.mp hw with rfl | hw
    · exact g _ k_6_65
    rcases List.mem_cons.mp hw with rfl | hw
    · exact g _ k_6_67
    rcases List.mem_cons.mp hw with rfl | hw
    · exact g _ k_6_68
    rcases List.mem_cons.mp hw with rfl | hw
    · exact g _ k_1_24
    cases hw
  · rcases List.mem_cons.mp hw with rfl | hw
    · exact g _ k_6_69
    · exact g _ hw
theorem o_ord (hE : o_EK E kd sd vd xd) (C : o_Cx E p s m args meth c D cl tys own bc ret nL cc A) (gk : o_kb k = true) (hP : va_P D cl w0 H) (hD : va_D A w0) (hS : va_S A s.heap H locs) (hl : ls.size = nL) (h1 : Cond.methodLink own index y_KwO ∈ o_WS) (hf : 0 + 1 ≤ R.frames) (hlo : 8 + (1 + 11) + 0 ≤ R.locals) (hst : (some (Value.int (nI k))).toList ++ rest = st1) (hw : (rest.map fun v => v.category).sum ≤ 8) (hdg : decode bc pc = .ok (.invokevirtual index, 3))
    (kk : ∀ (H1 : Heap) (locs1 : List Loc), va_P D cl w0 H1 → va_S A s.heap H1 locs1 → W p l e R s m args below meth c H1 locs1 0 0 Q (F0 m (pc + 3) ls st1)) : W p l e R s m args below meth c H locs 0 0 Q (F0 m pc ls (.ref (kd k) :: rest)) := by
  have C0 := C
  obtain ⟨hx, hb, hr, hlk, hml, hown, hts, hK, hA, he2⟩ := C
  refine o_call (va_runU (As := []) (rest := rest) (g := F0 m pc ls (.ref (kd k) :: rest)) ⟨hx, hb, hml, hown, hts⟩ (c_JE_ordinal hE l k gk H.size) (va_cwU 0 hts (o_ord_w h1) rfl rfl rfl rfl (by decide +kernel) ⟨hf, hlo⟩) ⟨o_blind hE.1, o_rk hE C0 gk hS, o_pre hE.1 C0 (av := [.ref (kd k)]) hP hD hS⟩ rfl rfl hl rfl (lv_room hw) hdg ⟨Nat.zero_le _, Nat.zero_le _⟩) hS (fun q _ h => o_sub hD hA hS q h) (o_sub hD hA hS) hst kk
end OEN
