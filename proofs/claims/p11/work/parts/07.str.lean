def o_sb (i : Nat) : Bool := decide (i < o_ns)
def o_nr (ty : FieldType) (x : Int32) : Bool := decide (vp_nar ty x = x)
def o_ck (i n : Int32) : Bool := !decide (i < 0) && decide (i < n)
theorem o_sbl {i : Nat} (h : o_sb i = true) : i < o_ns := by
  unfold o_sb at h
  simpa using h
theorem o_kws_all : ∀ k, k < 45 → o_sb (kw_str k) = true := by decide +kernel
theorem o_kws {k : Nat} (h : o_kb k = true) : o_sb (kw_str k) = true := o_kws_all k (o_kl h)
theorem o_nr_narC {x : Int32} (h : o_nr .char x = true) : narrow .char (.int x) = .int x := by
  unfold o_nr at h
  have h : vp_nar .char x = x := by simpa using h
  show Value.int (vp_nar .char x) = _
  rw [h]
theorem o_nr_narB {x : Int32} (h : o_nr .byte x = true) : narrow .byte (.int x) = .int x := by
  unfold o_nr at h
  have h : vp_nar .byte x = x := by simpa using h
  show Value.int (vp_nar .byte x) = _
  rw [h]
theorem hs_JP_checkIndex : y_JP_checkIndex.cls ≠ "java/lang/invoke/MethodHandle" ∧ y_JP_checkIndex.cls ≠ "java/lang/invoke/VarHandle" ∧ (parseMethodDescriptor y_JP_checkIndex.desc).map (fun d => d.parameters.length) = some 3 := by decide +kernel
theorem hs_JS_checkIndex : y_JS_checkIndex.cls ≠ "java/lang/invoke/MethodHandle" ∧ y_JS_checkIndex.cls ≠ "java/lang/invoke/VarHandle" ∧ (parseMethodDescriptor y_JS_checkIndex.desc).map (fun d => d.parameters.length) = some 2 := by decide +kernel
section OST
variable {E : (Nat → Prop) → State → Heap → Prop} {kd sd vd xd : Nat → Nat} {p : Program} {l : Launch} {e : Env} {R : Room} {s : State} {m : MethodId} {args : Array Value} {below : List Frame} {meth : Method} {c : Code} {H : Heap} {locs : List Loc} {cells slots : Nat} {Q : State → Prop}
variable {pc : Nat} {ls : Array Slot} {rest st0 st1 : List Value}
variable {D : va_G} {cl : List vw_C} {tys : List (ClassId × FieldType)} {own : String} {bc : ByteArray} {ret : Option FieldType} {nL : Nat} {cc : Cond} {A : Nat → Prop} {w0 w1 : va_W} {index k : Nat}
theorem o_rn {ty : FieldType} (C : o_Cx E p s m args meth c D cl tys own bc (some ty) nL cc A) {v : Int32} (hn : narrow ty (.int v) = .int v) (hP : va_P D cl w1 H) (hS : va_S A s.heap H locs) (hdg : decode bc pc = .ok (.ireturn, 1)) : W p l e R s m args below meth c H locs cells slots (MQ below (o_Qx D cl (some (.int v)) w1 A) args s cells slots A) (F0 m pc ls [.int v]) := by
  obtain ⟨hx, hb, hr, hlk, hml, hown, hts, hK, hA, he2⟩ := C
  exact W.zret hx hb hr hn (fun t ht _ => ⟨rfl, by rw [ht]; exact hP, hS.F ht⟩) hS.2.2 hdg
theorem o_sS (hE : o_EK E kd sd vd xd) (C : o_Cx E p s m args meth c D cl tys own bc ret nL cc A) : vk_S o_ns o_slen o_sbyt sd vd A s s.heap := hE.2.2.2.2.2.2.1 _ _ _ C.2.2.2.2.2.2.2.2.2
theorem o_rs (hE : o_EK E kd sd vd xd) (C : o_Cx E p s m args meth c D cl tys own bc ret nL cc A) (hk : o_sb k = true) (hS : va_S A s.heap H locs) : ∃ cell : Cell, H[sd k]? = some cell ∧ cell.vm.isStatics = false ∧ s.vm.findClass "java/lang/String" = some cell.cls := vk_recv (o_sS hE C) (o_sbl hk) hS
theorem o_sc (hE : o_EK E kd sd vd xd) (C : o_Cx E p s m args meth c D cl tys own bc ret nL cc A) (hk : o_sb k = true) : va_OF "java/lang/String" "coder" "B" (.int 0) (sd k) A s s.heap := ((o_sS hE C).1 k (o_sbl hk)).2.1
theorem o_sv (hE : o_EK E kd sd vd xd) (C : o_Cx E p s m args meth c D cl tys own bc ret nL cc A) (hk : o_sb k = true) : va_OF "java/lang/String" "value" "[B" (.ref (vd k)) (sd k) A s s.heap := ((o_sS hE C).1 k (o_sbl hk)).2.2.1
theorem o_sT (hE : o_EK E kd sd vd xd) (C : o_Cx E p s m args meth c D cl tys own bc ret nL cc A) (hk : o_sb k = true) : va_T .byte (vd k) (o_slen.getD k 0) (fun j => .int ((o_sbyt.getD k []).getD j 0)) A s s.heap := ((o_sS hE C).1 k (o_sbl hk)).2.2.2
/-- Preconditions.checkIndex, on the road that doesn't throw -/
theorem c_JP_checkIndex (hE : o_EK E kd sd vd xd) (l : Launch) (i n : Int32) (v : Value) (hv : v.category = 1) (g : o_ck i n = true) (hlv : lv_args 0 [.int i, .int n, v] = [(0, .int i), (1, .int n), (2, v)]) (hlg : (lg_sl [.int i, .int n, v]).length ≤ 3) : o_Cn E l D cl tys y_JP_checkIndex cc_JP_checkIndex { frames := 0, cells := 0, slots := 0, locals := 0 } [.int i, .int n, v] w0 w0 (some (.int i)) := by
  refine o_Cn_of (by decide) hlg ?_
  intro p e s m below meth c A ls C hD hP hS hl
  rw [hlv] at hl
  have C0 := C
  obtain ⟨hx, hb, -, -, -, hown, hts, hK, -, -⟩ := C0
  unfold o_ck at g
  simp only [Bool.and_eq_true, Bool.not_eq_true', decide_eq_true_eq, decide_eq_false_iff_not] at g
  obtain ⟨g1, g2⟩ := g
  refine lv_iload_n hx hb (show decode b_JP_checkIndex 0 = .ok (.iload_n 0, 1) by decide +kernel) rfl (lv_at hl 0 rfl) ?_
  refine lv_if_lt (tgt := 9) hx hb (show decode b_JP_checkIndex 1 = .ok (.ifCond .lt 8, 3) by decide +kernel) (by decide) (fun h => absurd h g1) (fun _ => ?_)
  refine lv_iload_n hx hb (show decode b_JP_checkIndex 4 = .ok (.iload_n 0, 1) by decide +kernel) rfl (lv_at hl 0 rfl) ?_
  refine lv_iload_n hx hb (show decode b_JP_checkIndex 5 = .ok (.iload_n 1, 1) by decide +kernel) rfl (lv_at hl 1 rfl) ?_
  refine lv_icmp_lt (tgt := 16) hx hb (show decode b_JP_checkIndex 6 = .ok (.if_icmp .lt 10, 3) by decide +kernel) (by decide) (fun _ => ?_) (fun h => absurd g2 h)
  refine lv_iload_n hx hb (show decode b_JP_checkIndex 16 = .ok (.iload_n 0, 1) by decide +kernel) rfl (lv_at hl 0 rfl) ?_
  exact o_ri C hP hS (show decode b_JP_checkIndex 17 = .ok (.ireturn, 1) by decide +kernel)
theorem c_JS_checkIndex (hE : o_EK E kd sd vd xd) (l : Launch) (i n : Int32) (g : o_ck i n = true) : o_Cn E l D cl tys y_JS_checkIndex cc_JS_checkIndex { frames := 1, cells := 0, slots := 0, locals := 22 } [.int i, .int n] w0 w0 none := by
  refine o_Cn_of (by decide) (Nat.le_of_ble_eq_true rfl) ?_
  intro p e s m below meth c A ls C hD hP hS hl
  have hl : lv_has ls 2 [(0, .int i), (1, .int n)] := hl
  have C0 := C
  obtain ⟨hx, hb, -, -, -, hown, hts, hK, -, -⟩ := C0
  have hZ := hE.2.2.2.2.2.2.2.2.2.1 _ _ _ C.2.2.2.2.2.2.2.2.2
  have key : ∀ (v : Value) (hv : v.category = 1) (hlv : lv_args 0 [.int i, .int n, v] = [(0, .int i), (1, .int n), (2, v)]) (hlg : (lg_sl [.int i, .int n, v]).length ≤ 3), va_Z "jdk/internal/util/Preconditions" "SIOOBE_FORMATTER" "Ljava/util/function/BiFunction;" v A s s.heap → W p l e { frames := 1, cells := 0, slots := 0, locals := 22 } s m ([.int i, .int n] : List Value).toArray below meth c s.heap [] 0 0 (MQ below (o_Qx D cl none w0 A) ([.int i, .int n] : List Value).toArray s 0 0 A) (F0 m 0 ls []) := by
    intro v hv hlv hlg hz
    refine lv_iload_n hx hb (show decode b_JS_checkIndex 0 = .ok (.iload_n 0, 1) by decide +kernel) rfl (lv_at hl 0 rfl) ?_
    refine lv_iload_n hx hb (show decode b_JS_checkIndex 1 = .ok (.iload_n 1, 1) by decide +kernel) rfl (lv_at hl 1 rfl) ?_
    refine va_gets (v := v) hx hb hz hS hown (hts _ k_3_85) (fun _ h9 => h9) (show decode b_JS_checkIndex 2 = .ok (.getstatic 1053, 3) by decide +kernel) ?_
    refine o_S (st1 := [.int i]) (w1 := w0) (rest := []) (As := [.int i, .int n, v]) hE.1 C (c_JP_checkIndex hE l i n v hv g hlv hlg) hP hD hS hl.1 k_3_87 k_3_88 k_1_20 k_3_89 hs_JP_checkIndex rfl rfl ⟨Nat.le_of_ble_eq_true rfl, Nat.le_of_ble_eq_true rfl⟩ rfl (Nat.le_of_ble_eq_true rfl) ⟨Nat.zero_le _, Nat.zero_le _⟩ rfl (show decode b_JS_checkIndex 5 = .ok (.invokestatic 1059, 3) by decide +kernel) (fun H locs hP hS => ?_)
    refine lv_pop hx hb (show decode b_JS_checkIndex 8 = .ok (.pop, 1) by decide +kernel) rfl ?_
    exact o_rv C hP hS (show decode b_JS_checkIndex 9 = .ok (.return_, 1) by decide +kernel)
  rcases hZ with hz | ⟨t, hz⟩
  · exact key .null rfl rfl (Nat.le_of_ble_eq_true rfl) hz
  · exact key (.ref t) rfl rfl (Nat.le_of_ble_eq_true rfl) hz
theorem o_ldcS3 (hexec : p.tables.exec = Jvm.exec) (hb : c.code = bc) {own tx : String} {index q : Nat} (hown : s.vm.findClass own = some m.cls) (hZ : vk_R own index tx q s) (hdg : decode bc pc = .ok (.ldc_w index, 3))
    (k : W p l e R s m args below meth c H locs cells slots Q (F0 m (pc + 3) ls (.ref q :: rest))) : W p l e R s m args below meth c H locs cells slots Q (F0 m pc ls rest) := by
  intro T hT X
  obtain ⟨t, a1, b1⟩ := k T hT X
  exact ⟨t, X.ldcStringW hexec hown (text := tx) (a := q) hZ.1 hZ.2 (g := F0 m pc ls rest) rfl (by rw [hb]; exact hdg) t a1, b1⟩
end OST
