/-! Methods that may throw: their contracts; the road from 'new' to the throw; a call whose throw is caught -/
def o_MQT (below : List Frame) (Qc : Array Value → State → Outcome → State → Prop) (a : Array Value) (s : State) (mc ms : Nat) (free : Addr → Prop) : State → Prop := fun t =>
  ∃ o, t.status = .running ∧ Ended t below o ∧ Qc a s o t ∧ ∃ L, (s.WarmedH t.vm ∧ s.sameButNew ({ t with vm := s.vm } : State) L mc ms) ∧ ∀ q ∈ L, free q.base
def o_MT (l : Launch) (y : MethodName) (ws : List Cond) (rm : Room) (Pc : Array Value → State → Prop) (Qc : Array Value → State → Outcome → State → Prop) (mc ms : Nat) (free : Addr → Prop) : Prop :=
  MetFree l y (headSpec ws rm) Pc (fun _ _ _ _ _ => True) (fun a st o t => Qc a st o t ∧ ∃ L, (st.WarmedH t.vm ∧ st.sameButNew ({ t with vm := st.vm } : State) L mc ms) ∧ ∀ q ∈ L, free q.base)
theorem o_MT_ofW {l : Launch} {y : MethodName} {ws ws' : List Cond} {rm : Room} {Pc : Array Value → State → Prop} {Qc : Array Value → State → Outcome → State → Prop} {mc ms : Nat} {free : Addr → Prop} {cc : ByteArray} {maxL : Nat} {ret : Option FieldType}
    (hy : plainName y.cls = true) (hw : ws = Cond.code y cc maxL ret :: ws')
    (body : ∀ p e s m args below meth c s₁, BodyLoose p l y (headSpec ws rm) cc maxL ret e s m args below meth c s₁ → c.maxLocals = maxL → Pc args s →
      W p l e (headSpec ws rm).room s m args below meth c s.heap [] 0 0 (o_MQT below Qc args s mc ms free) (entryFrame m args maxL)) : o_MT l y ws rm Pc Qc mc ms free := by
  refine MetFree.of_bodyS (code := cc) (maxLocals := maxL) (ret := ret) hy ?_ ?_
  · intro args s m h hn
    obtain ⟨meth, c, h1, h2, h3, h4, h5, h6, -, -⟩ := Cond.code_spec hn (atoms_spec (ws := ws) h _ (by rw [hw]; exact List.mem_cons_self))
    exact ⟨meth, c, h1, h2, h3, h4, h5, h6⟩
  · intro p e s m args below meth c s₁ B hml hP _
    have hh0 : s₁.heap = s.heap := by rw [B.state]; rfl
    obtain ⟨t, a1, o, b1, b2, b3⟩ := body p e s m args below meth c s₁ B hml hP s₁ hh0 (Stand.of_body B)
    exact ⟨t, o, a1, b1, b2, ⟨b3.1, b3.2⟩⟩
def o_exn (k : Nat) : String := if k = 1 then "java/lang/IndexOutOfBoundsException" else if k = 2 then "java/lang/IllegalArgumentException" else if k = 3 then "java/lang/IllegalStateException" else "java/lang/UnsupportedOperationException"
/-- the end: the answer, or a new object of the exception's class -/
def o_Qt (D : va_G) (cl : List vw_C) (ex : Nat) (r : Option Value) (w1 : va_W) (A : Nat → Prop) : Array Value → State → Outcome → State → Prop := fun _ st oc t =>
  ((ex = 0 → oc = .returned r) ∧ (ex ≠ 0 → ∃ (x : Nat) (cell : Cell), oc = .threw x ∧ t.heap[x]? = some cell ∧ cell.vm = .none ∧ st.vm.findClass (o_exn ex) = some cell.cls)) ∧ va_P D cl w1 t.heap ∧ va_F A st t
def o_Ct (E : (Nat → Prop) → State → Heap → Prop) (l : Launch) (D : va_G) (cl : List vw_C) (tys : List (ClassId × FieldType)) (y : MethodName) (cc : Cond) (rm : Room) (av : List Value) (w0 w1 : va_W) (ex : Nat) (r : Option Value) : Prop :=
  ∀ sz : Nat, o_MT l y (cc :: o_WS) rm (o_Pc E D cl tys av w0 sz) (o_Qt D cl ex r w1 (va_A w0 sz)) 1 6 (va_A w0 sz)
theorem o_Ct_of {E : (Nat → Prop) → State → Heap → Prop} {l : Launch} {D : va_G} {cl : List vw_C} {tys : List (ClassId × FieldType)} {y : MethodName} {bc : ByteArray} {nL : Nat} {ret : Option FieldType} {rm : Room} {av : List Value} {w0 w1 : va_W} {ex : Nat} {r : Option Value}
    (hfl : l.flags = pinnedFlags ++ [noTraceFlag]) (hy : plainName y.cls = true) (hlen : (lg_sl av).length ≤ nL)
    (body : ∀ (p : Program) (e : Env) (s : State) (m : MethodId) (below : List Frame) (meth : Method) (c : Code) (A : Nat → Prop) (ls : Array Slot), e.platform.stackTraces = false → c.exceptionTable.isEmpty = true → o_Cx E p s m av.toArray meth c D cl tys y.cls bc ret nL (Cond.code y bc nL ret) A → va_D A w0 → va_P D cl w0 s.heap → va_S A s.heap s.heap [] → lv_has ls nL (lv_args 0 av) →
      W p l e rm s m av.toArray below meth c s.heap [] 0 0 (o_MQT below (o_Qt D cl ex r w1 A) av.toArray s 1 6 A) (F0 m 0 ls [])) : o_Ct E l D cl tys y (Cond.code y bc nL ret) rm av w0 w1 ex r := by
  intro sz
  refine o_MT_ofW (cc := bc) (maxL := nL) (ret := ret) hy rfl ?_
  intro p e s m args below meth c s₁ B hml hv
  obtain ⟨rfl, hsz, hP, hK, hD0, hE⟩ := hv
  have hts := atoms_spec (ws := Cond.code y bc nL ret :: o_WS) B.pre
  have hown : s.vm.findClass y.cls = some m.cls := findClass_of_methodNamed B.named
  subst hsz
  have hD := hD0.self (sz := s.heap.size)
  have hl := lv_entry av (n := nL) hlen
  rw [lg_entry_eq]
  exact body p e s m below meth c (va_A w0 s.heap.size) _ (Launch.traces_off hfl B.admits) (B.noHandlers (hts _ List.mem_cons_self)) ⟨B.exec, B.bytes, B.returns, B.notSynchronized, hml, hown, fun w hw => hts w (List.mem_cons_of_mem _ hw), hK, fun q h => Or.inr h, hE⟩ hD hP va_S.rf hl
/-- Throwable's two statics, as nobody writes them -/
def o_TS1 (n d : String) (A : Nat → Prop) (U : State) (H : Heap) : Prop := ∃ (c : ClassId) (k : Class) (i : Nat) (f : Field) (a : Nat) (cell : Cell), U.vm.findClass Bundle.tN = some c ∧ U.fieldFound? Bundle.tN n d = some (c, k, i, f) ∧ f.isStatic = true ∧ k.statics = some a ∧ H[a]? = some cell ∧ cell.vm.isStatics = true ∧ cell.cls = c ∧ f.slot < cell.slots.size ∧ k.staticTypes[f.slot]? = some f.type ∧ (cell.slots[f.slot]? = some .null ∨ ∃ t, cell.slots[f.slot]? = some (.ref t)) ∧ ¬ A a
theorem o_TS1.ride {n d : String} {A B : Nat → Prop} {u U : State} {H H1 : Heap} (hW : u.WarmedH U.vm) (hBA : ∀ q, B q → A q) (hk : ∀ a : Nat, a < H.size → ¬ A a → H1[a]? = H[a]?) (h : o_TS1 n d A u H) : o_TS1 n d B U H1 := by
  obtain ⟨c, k, i, f, a, cell, h1, h2, h3, h4, h5, h6, h7, h8, h9, h10, h11⟩ := h
  obtain ⟨k', hi', he⟩ := State.fieldFound?_setVm hW.alike h2
  exact ⟨c, k', i, f, a, cell, by rw [hW.alike.findClass]; exact h1, hi', h3, by rw [he]; exact h4, by rw [hk a (Array.getElem?_eq_some_iff.mp h5).1 h11]; exact h5, h6, h7, h8, by rw [he]; exact h9, h10, fun z => h11 (hBA a z)⟩
theorem o_TS1.lays {n d : String} {A : Nat → Prop} {U : State} {args : Array Value} (h : o_TS1 n d A U U.heap) : (Cond.laysStatic Bundle.tN n d).before args U = true := by
  obtain ⟨c, k, i, f, a, cell, h1, h2, h3, h4, h5, h6, h7, h8, h9, h10, h11⟩ := h
  simp [Cond.before, Cond.holds, Cond.value, h1, h2, h3, h4, h5, h6, h7, h8, h9]
theorem o_TS1.isr {n d : String} {A : Nat → Prop} {U : State} {args : Array Value} (h : o_TS1 n d A U U.heap) : (Cond.isRef (.static Bundle.tN n d)).before args U = true := by
  obtain ⟨c, k, i, f, a, cell, h1, h2, h3, h4, h5, h6, h7, h8, h9, h10, h11⟩ := h
  have he : (Term.static Bundle.tN n d).eval args U none [] U = cell.slots[f.slot]? := by
    simp [Term.eval, State.fieldNamed?, h2, h3, h4, h5, h6]
  rcases h10 with h | ⟨t, h⟩ <;> simp [Cond.before, Cond.holds, Cond.value, he, h]
theorem o_TS1.of {n d : String} {A : Nat → Prop} {s : State} {args : Array Value} (hl : (Cond.laysStatic Bundle.tN n d).before args s = true) (hr : (Cond.isRef (.static Bundle.tN n d)).before args s = true) (hA : ∀ a : Nat, a < s.heap.size → ¬ A a) : o_TS1 n d A s s.heap := by
  obtain ⟨c, k, i, f, a, cell, h1, h2, h3, h4, h5, h6, h7, h8, h9⟩ := Cond.laysStatic_spec hl
  have he : (Term.static Bundle.tN n d).eval args s none [] s = cell.slots[f.slot]? := by
    simp [Term.eval, State.fieldNamed?, h2, h3, h4, h5, h6]
  refine ⟨c, k, i, f, a, cell, h1, h2, h3, h4, h5, h6, h7, h8, h9, ?_, hA a (Array.getElem?_eq_some_iff.mp h5).1⟩
  simp only [Cond.before, Cond.holds, Cond.value, he] at hr
  cases hv : cell.slots[f.slot]? with
  | none => simp [hv] at hr
  | some v =>
    rw [hv] at hr
    cases v with
    | null => exact Or.inl rfl
    | ref t => exact Or.inr ⟨t, rfl⟩
    | _ => simp at hr
/-- an object of X is none of Y -/
def o_NA (X Y : String) (U : State) : Prop := ∀ c t : ClassId, U.vm.findClass X = some c → U.vm.findClass Y = some t → U.vm.assignable c t = false
theorem o_NA.moved {X Y : String} {u U : State} (hvm : u.vm.Alike U.vm) (h : o_NA X Y u) : o_NA X Y U := fun c t h1 h2 => by
  rw [hvm.findClass] at h1 h2
  rw [hvm.assignable]
  exact h c t h1 h2
theorem o_NA.of {X Y : String} {args : Array Value} {s : State} (hno : (Cond.not (.castable X Y)).before args s = true) : o_NA X Y s := fun c t h1 h2 => by
  have hv := Cond.holds_not_iff.mp hno
  simp only [Cond.value, h1, h2] at hv
  exact Option.some.inj hv
def o_NAs (U : State) : Prop := o_NA "java/lang/IllegalArgumentException" "java/lang/IndexOutOfBoundsException" U ∧ o_NA "java/lang/IndexOutOfBoundsException" "java/lang/IllegalArgumentException" U ∧ o_NA "java/lang/UnsupportedOperationException" "java/lang/IllegalStateException" U
def o_ET (E : (Nat → Prop) → State → Heap → Prop) : Prop := ∀ (A : Nat → Prop) (U : State) (H : Heap), E A U H → o_TS1 "UNASSIGNED_STACK" Bundle.steD A U H ∧ o_TS1 "SUPPRESSED_SENTINEL" Bundle.listD A U H ∧ o_NAs U
/-- a word that others give -/
def o_DV (w : Cond) : Prop := ∀ (args : Array Value) (s : State), (∀ v ∈ o_WS, v.before args s = true) → w.before args s = true
theorem o_dv_cast {X : String} {n : Nat} (h : Cond.instantiable X n ∈ o_WS) : o_DV (.castable X X) := fun args s hts => by
  obtain ⟨cC, kC, hfc, -⟩ := Cond.instantiable_spec (hts _ h)
  have ha : s.vm.assignable cC cC = true := by
    show s.vm.assignableAux (255 + 1) _ _ = true
    unfold Vm.assignableAux
    simp
  simp [Cond.before, Cond.holds, Cond.value, hfc, ha]
theorem o_dv_decl {y : MethodName} {bytes : ByteArray} {n : Nat} {ret : Option FieldType} (h1 : Cond.instanceMethod y ∈ o_WS) (h2 : Cond.code y bytes n ret ∈ o_WS) : o_DV (.declares y) := fun args s hts => by
  obtain ⟨mk, meth, hn, hm, hst, hab⟩ := Cond.instanceMethod_spec (hts _ h1)
  obtain ⟨meth', c, hm', -, -, -, -, -, -, hsig⟩ := Cond.code_spec hn (hts _ h2)
  cases hm.symm.trans hm'
  simp [Cond.before, Cond.holds, Cond.value, hn, hm, hst, hsig]
def o_ST (w : Cond) : Prop := w = .laysStatic Bundle.tN "UNASSIGNED_STACK" Bundle.steD ∨ w = .laysStatic Bundle.tN "SUPPRESSED_SENTINEL" Bundle.listD ∨ w = .isRef (.static Bundle.tN "UNASSIGNED_STACK" Bundle.steD) ∨ w = .isRef (.static Bundle.tN "SUPPRESSED_SENTINEL" Bundle.listD) ∨ o_DV w
theorem o_ST_at {E : (Nat → Prop) → State → Heap → Prop} (hT : o_ET E) {A : Nat → Prop} {U : State} (h : E A U U.heap) {args : Array Value} (hts : ∀ v ∈ o_WS, v.before args U = true) {w : Cond} (hw : o_ST w) : w.before args U = true := by
  obtain ⟨h1, h2, -⟩ := hT _ _ _ h
  rcases hw with rfl | rfl | rfl | rfl | hw
  · exact h1.lays
  · exact h2.lays
  · exact h1.isr
  · exact h2.isr
  · exact hw _ _ hts
section OTX
variable {E : (Nat → Prop) → State → Heap → Prop} {p : Program} {l : Launch} {e : Env} {R : Room} {s : State} {m : MethodId} {args : Array Value} {below : List Frame} {meth : Method} {c : Code} {H : Heap} {locs : List Loc} {cells slots : Nat} {Q : State → Prop}
variable {pc : Nat} {ls : Array Slot} {rest st0 st1 : List Value} {A : Nat → Prop} {D : va_G} {cl : List vw_C} {tys : List (ClassId × FieldType)} {own : String} {bc bytes : ByteArray} {ret ret' : Option FieldType} {nL maxL n : Nat} {cc : Cond} {y : MethodName} {rm : Room} {w0 w1 : va_W} {r : Option Value} {index ex : Nat}
theorem o_ret0 {g : JFrame} (h : W p l e R s m args below meth c H locs 0 0 (MQ below (o_Qx D cl r w1 A) args s 0 0 A) g) : W p l e R s m args below meth c H locs 0 0 (o_MQT below (o_Qt D cl 0 r w1 A) args s 1 6 A) g := by
  intro T hT X
  obtain ⟨t, a, o, b1, b2, ⟨b3, b4, b5⟩, L, ⟨-, hW, hsame⟩, hL⟩ := h T hT X
  exact ⟨t, a, o, b1, b2, ⟨⟨fun _ => b3, fun z => absurd rfl z⟩, b4, b5⟩, L, ⟨hW, hsame.mono (by omega) (by omega)⟩, hL⟩
/-- the walk told from where it stands now, while it has made nothing -/
theorem o_rebase {T : State} (X : Stand p l e R s m args below meth c T locs 0 0) : Stand p l e R ({ s with heap := T.heap, slotsUsed := T.slotsUsed } : State) m args below meth c T [] 0 0 := by
  have h1 := X.same.1
  have hsz := X.heapSize
  have hus := X.used
  have hbk := X.book
  refine ⟨X.admits, X.cas, X.clock, X.frames, ?_, X.hears, X.method, X.code, X.here, X.tail, X.warmed, X.limits, X.bytes, ?_⟩
  · have h := X.room
    simp only [State.hasRoom, Bool.and_eq_true, decide_eq_true_eq] at h ⊢
    obtain ⟨⟨⟨a0, b1⟩, c1⟩, -⟩ := h
    refine ⟨⟨⟨a0, ?_⟩, ?_⟩, hbk⟩
    · show T.heap.size + R.cells ≤ _
      omega
    · show T.slotsUsed + R.slots ≤ _
      omega
  · refine ⟨h1, Nat.le_refl _, Nat.le_refl _, ?_, ?_, fun a c hc => ⟨c, hc, rfl, rfl, fun _ _ => rfl⟩⟩
    · show T.slotsUsed = T.slotsUsed + ((T.heap.toList.drop T.heap.size).map (·.slots.size)).sum
      rw [List.drop_of_length_le (by simp)]
      rfl
    · show ((T.heap.toList.drop T.heap.size).map (·.slots.size)).sum ≤ 0
      rw [List.drop_of_length_le (by simp)]
      exact Nat.le_refl _
/-- new X(text), thrown -/
theorem o_thr (hE : o_Ek E) (hT : o_ET E) (htr : e.platform.stackTraces = false) (hne : c.exceptionTable.isEmpty = true) (C : o_Cx E p s m args meth c D cl tys own bc ret nL cc A) {X tx : String} {names : List String} {ic inw ild msg : Nat}
    (hX : Bundle.fit X = true) (hns : ∀ n ∈ names, Bundle.fit n = true) (hat : ∀ w ∈ Bundle.ownAtoms own ic X names, w ∈ o_WS ∨ o_ST w) (hcl : Cond.classLink own inw X ∈ o_WS) (hinst : Cond.instantiable X 6 ∈ o_WS) (hini : Cond.initialized X ∈ o_WS)
    (hR : ∀ (A : Nat → Prop) (U : State) (H : Heap), E A U H → vk_R own ild tx msg U) (hP : va_P D cl w1 H) (hS : va_S A s.heap H locs) (hl : ls.size = nL) (hex : o_exn ex = X) (hex0 : ex ≠ 0)
    (hfr : names.length + 3 < R.frames) (hlo : 1 + (13 * (names.length + 1) + 42) ≤ R.locals) (hc1 : 1 ≤ R.cells) (hs1 : 6 ≤ R.slots)
    (d0 : decode bc pc = .ok (.new inw, 3)) (d1 : decode bc (pc + 3) = .ok (.dup, 1)) (d2 : decode bc (pc + 4) = .ok (.ldc ild, 2)) (d3 : decode bc (pc + 6) = .ok (.invokespecial ic, 3)) (d4 : decode bc (pc + 9) = .ok (.athrow, 1)) :
    W p l e R s m args below meth c H locs 0 0 (o_MQT below (o_Qt D cl ex r w1 A) args s 1 6 A) (F0 m pc ls []) := by
  obtain ⟨hx, hb, hr, hlk, hml, hown, hts, hK, hA, he⟩ := C
  intro T hTH X0
  subst hTH
  have XB := o_rebase X0
  have hw2 : ∀ w ∈ o_WS, w.before args ({ s with heap := T.heap, slotsUsed := T.slotsUsed } : State) = true := fun w hw => word_at (s := s) (U := ({ s with heap := T.heap, slotsUsed := T.slotsUsed } : State)) (State.WarmedH.refl s) (good_of_word (List.mem_filter.mp hw).2) (hts w hw)
  have hEs : E (fun q => T.heap.size ≤ q) ({ s with heap := T.heap, slotsUsed := T.slotsUsed } : State) T.heap := hE A _ s _ s.heap T.heap (State.WarmedH.refl s) (fun q hq => hA q (Nat.le_trans hS.1 hq)) (fun a h1 h2 => hS.2.1 a h1 h2) he
  have hatoms : ∀ a ∈ Bundle.ownAtoms own ic X names, a.before args ({ s with heap := T.heap, slotsUsed := T.slotsUsed } : State) = true := fun a ha => (hat a ha).elim (hw2 a) (fun h => o_ST_at hT hEs hw2 h)
  generalize hs2 : ({ s with heap := T.heap, slotsUsed := T.slotsUsed } : State) = s2 at XB hw2 hEs hatoms
  have hvm : s2.vm = s.vm := by rw [← hs2]
  have hhp : s2.heap = T.heap := by rw [← hs2]
  have hown2 : s2.vm.findClass own = some m.cls := by rw [hvm]; exact hown
  have K : W p l e R s2 m args below meth c T.heap [] 0 0 (fun t => t.status = .running ∧ Ended t below (.threw T.heap.size) ∧ s2.WarmedH t.vm ∧ s2.sameButNew ({ t with vm := s2.vm } : State) [] 1 6 ∧ ∃ ce, t.heap[T.heap.size]? = some ce ∧ Bundle.OwnCell args s2 X T.heap.size (.ref msg) ce) (F0 m pc ls []) := by
    refine W.newc hx hb hown2 (hw2 _ hcl) (hw2 _ hinst) (hw2 _ hini) rfl d0 (by omega) (by omega) (fun cC kC h1 h2 h3 h4 => ?_)
    refine lv_dup hx hb d1 rfl ?_
    refine va_ldcS (q := msg) hx hb hown2 (hR _ _ _ hEs) d2 ?_
    intro T1 hT1 X1
    obtain ⟨U, st, run, ended, warm, same, ce, hce, hoc⟩ := Stand.ctorThrowS X1 hx htr hown2 hX hns hatoms (fun x hx => by cases hx) (a := T.heap.size) h1 h2 (by rw [hT1]; simp) (by rw [hhp]; exact Nat.le_refl _) (msg := .ref msg) rfl
      (g := F0 m (pc + 6) ls [.ref msg, .ref T.heap.size, .ref T.heap.size]) rfl (hl.trans hml.symm) rfl rfl (rest := []) rfl (by rw [hb]; exact d3) (by rw [hb]; exact d4) (covers_of_empty hne _) hfr (by first | exact hlo | simpa [JFrame.monitorRoom] using hlo) hlk
    exact ⟨U, st, run, ended, warm, same, ce, hce, hoc⟩
  obtain ⟨t, st, run, ended, warm, same, ce, hce, hoc⟩ := K T rfl XB
  have hold : ∀ q : Nat, q < T.heap.size → t.heap[q]? = T.heap[q]? := by
    intro q hq
    obtain ⟨c0, hc0⟩ : ∃ c0, T.heap[q]? = some c0 := ⟨_, Array.getElem?_eq_getElem hq⟩
    obtain ⟨c', h1, h2, h3, h4⟩ := same.2.2.2.2.2 q c0 (by rw [hhp]; exact hc0)
    have h5 : c'.slots = c0.slots := Array.ext_getElem? (fun i => h4 i (fun z => by cases z))
    have h6 : c' = c0 := by rw [h2, h5]
    rw [hc0]
    rw [h6] at h1
    exact h1
  have hge : T.heap.size ≤ t.heap.size := by have := same.2.1; rw [hhp] at this; exact this
  refine ⟨t, st, .threw T.heap.size, run, ended, ⟨⟨fun z => absurd z hex0, fun _ => ⟨_, ce, rfl, hce, hoc.vm, by rw [hex, ← hvm]; exact hoc.cls⟩⟩, fun k q hq => (hP k q hq).kept (hold q.1 (hP k q hq).lt), ?_⟩, locs, ⟨?_, ?_⟩, hS.2.2⟩
  · exact ⟨Nat.le_trans hS.1 hge, fun q h1 h2 => (hold q (Nat.lt_of_lt_of_le h1 hS.1)).trans (hS.2.1 q h1 h2)⟩
  · subst hs2
    exact warm
  · have h0 := X0.same
    have h2 : (T.setVm s.vm).sameButNew ({ t with vm := s.vm } : State) [] 1 6 := by
      subst hs2
      refine ⟨?_, same.2⟩
      refine same.1.trans ?_
      rw [h0.1]
      show _ = ({ ((s.setFrames _).setFrames _) with heap := _, slotsUsed := _ } : State)
      rw [State.setFrames_setFrames]
      rfl
    have h3 := h0.trans h2
    simpa using h3
end OTX
/-! A call whose callee may throw, and the throw caught by a handler of the caller's -/
section OTB
variable {l : Launch} {R : Room} {p : Program} {e : Env} {below : List Frame} {s : State} {sargs : Array Value} {y : MethodName} {len W0 : Nat}
theorem o_bkT {ws : List Cond} {rm : Room} {Pc : Array Value → State → Prop} {Qc : Array Value → State → Outcome → State → Prop} {mc ms : Nat} {free : Addr → Prop} {bytes : ByteArray} {maxL : Nat} {ret : Option FieldType}
    (hM : o_MT l y ws rm Pc Qc mc ms free) (hblind : FrameBlind Pc) (hrc : rm.cells = mc) (hrs : rm.slots = ms) (hframes : rm.frames + 1 ≤ R.frames) (hlocals : W0 + (maxL + 11) + rm.locals ≤ R.locals)
    (hws : ∀ w ∈ ws, ∀ (a' : Array Value) (U : State), s.WarmedH U.vm → w.before a' U = true) (hcode : Cond.code y bytes maxL ret ∈ ws) (hinit : ∀ (a' : Array Value) (U : State), s.WarmedH U.vm → (Cond.initialized y.cls).before a' U = true)
    {m : MethodId} {meth : Method} {c : Code} {U : State} {Ls : List Loc} {c0 s0 : Nat} {g : JFrame} {ig : Instr} {mk : MethodId} {a : Array Value}
    (X : Stand p l e R s m sargs below meth c U Ls c0 s0) (hg : g.method = m) (hsize : g.locals.size = c.maxLocals) (hdg : decode c.code g.pc = .ok (ig, len)) (hW : 2 * g.monitorRoom + (g.stack.map fun v => v.category).sum ≤ W0) (hn : U.methodNamed? y = some mk) (hcs : c0 + mc ≤ R.cells) (hss : s0 + ms ≤ R.slots) (hp : Pc a U) :
    ∃ (o : Outcome) (t U' : State) (L : List Loc), Stand p l e R s m sargs below meth c U' (Ls ++ L) (c0 + mc) (s0 + ms) ∧ U'.heap = t.heap ∧ U'.vm = t.vm ∧ Qc a (U.calling g mk a) o t ∧ (∀ q ∈ L, free q.base) ∧
      (∀ v, o = .returned v → Steps p.tables e below (doInvoke e (U.setTop g) [] mk a).1 (U'.setTop { g with pc := g.pc + len, stack := v.toList ++ g.stack })) ∧
      (∀ x, o = .threw x → Steps p.tables e below (doInvoke e (U.setTop g) [] mk a).1 ((U'.setTop g).pushFrame (.throwing x))) := by
  have h1 : (headSpec ws rm).pre.before a U = true := atoms_intro fun w hw => hws w hw _ _ X.warmed
  have h2 : (Cond.code y bytes maxL ret).before a U = true := hws _ hcode _ _ X.warmed
  have h3 : (Cond.initialized y.cls).before a U = true := hinit _ _ X.warmed
  obtain ⟨methY, cY, hmY, hcY, -, hlY, -, -, -, -⟩ := Cond.code_spec hn h2
  obtain ⟨kY, hkY, -⟩ := className_of_methodNamed hn
  have hinitY : kY.init = .initialized := Cond.initialized_spec (findClass_of_methodNamed hn) hkY h3
  have h : At U g.method c below := by rw [hg]; exact X.here
  have happ : (headSpec ws rm).appliesLoose y e.platform (U.calling g mk a) = true :=
    Spec.appliesLoose_calling (g := g) h hdg hn hkY hinitY
      (X.room_calling (g := g) (R' := rm) hsize hmY hcY hframes (by rw [hlY]; omega) (by rw [hrc]; exact hcs) (by rw [hrs]; exact hss)) h1
  obtain ⟨mid, hmid⟩ := h.above
  have hfr : (U.setTop g).frames = (.java g :: mid) ++ below := by rw [State.frames_setTop' g h.top, hmid]; rfl
  obtain ⟨o, s₂, hsteps, -, hend, hq, L, ⟨hW₂, e2, q2, q3, q4, q5, q6⟩, hL⟩ := Steps.callFree hM p X.admits X.cas X.clock (acts := []) hfr happ (hblind _ _ _ _ hp) trivial
  rw [State.frames_setTop' g h.top] at hend
  have e3 : s₂ = ({ (U.calling g mk a).setFrames s₂.frames with heap := s₂.heap, slotsUsed := s₂.slotsUsed } : State).setVm s₂.vm := by
    have : s₂ = ({ s₂ with vm := (U.calling g mk a).vm } : State).setVm s₂.vm := rfl
    have e2' : ({ s₂ with vm := (U.calling g mk a).vm } : State) = _ := e2
    rw [e2'] at this
    exact this
  have hW' : U.WarmedH s₂.vm := hW₂
  obtain ⟨g₀, hg0⟩ := Option.isSome_iff_exists.mp h.top
  obtain ⟨r, hr⟩ := State.topJava?_eq_some.mp hg0
  have hr' : (({ U with heap := s₂.heap, slotsUsed := s₂.slotsUsed } : State).setVm s₂.vm).frames = .java g₀ :: r := hr
  have hsame : U.sameButNew ({ U with heap := s₂.heap, slotsUsed := s₂.slotsUsed } : State) L mc ms := by
    refine ⟨?_, q2, q3, q4, q5, q6⟩
    obtain ⟨t, ht, -⟩ := State.frames_cons hr
    show ({ U with heap := s₂.heap, slotsUsed := s₂.slotsUsed } : State) = { U.setFrames U.frames with heap := s₂.heap, slotsUsed := s₂.slotsUsed }
    rw [State.setFrames_self ht]
  subst hg
  refine ⟨o, s₂, ({ U with heap := s₂.heap, slotsUsed := s₂.slotsUsed } : State).setVm s₂.vm, L,
    ⟨X.admits, X.cas, X.clock, X.frames, X.room, X.hears, X.method, X.code, (X.here.setHeapUsed s₂.heap s₂.slotsUsed).setVm hW'.alike, X.tail, State.WarmedH.trans X.warmed hW', X.limits, X.bytes, X.same.trans (hsame.setVm s.vm)⟩,
    rfl, rfl, hq, hL, fun v hv => ?_, fun x hv => ?_⟩
  · subst hv
    obtain ⟨c₂, i₂, len₂, hc₂, hd₂, hf₂⟩ := hend
    have hcc : c₂ = c := by
      have h1 : s₂.code? g.method = U.code? g.method := by
        rw [State.code?_eq, State.code?_eq, hW'.alike.method?]
      exact Option.some.inj (hc₂.symm.trans (h1.trans h.code))
    subst hcc
    have hlen : len₂ = len := by rw [hdg] at hd₂; cases hd₂; rfl
    subst hlen
    have hs₂ : s₂ = (({ U with heap := s₂.heap, slotsUsed := s₂.slotsUsed } : State).setVm s₂.vm).setTop { g with pc := g.pc + len₂, stack := v.toList ++ g.stack } := by
      refine e3.trans ?_
      rw [hf₂, State.calling_eq h.top, State.setFrames_setFrames, State.setTop_of_frames _ hr', hr]
      rfl
    rw [← hs₂]
    exact hsteps
  · subst hv
    have hf₂ : s₂.frames = .throwing x :: .java g :: U.frames.tail := hend
    have hs₂ : s₂ = ((({ U with heap := s₂.heap, slotsUsed := s₂.slotsUsed } : State).setVm s₂.vm).setTop g).pushFrame (.throwing x) := by
      refine e3.trans ?_
      rw [hf₂, State.calling_eq h.top, State.setFrames_setFrames, State.pushFrame, State.frames_setTop _ hr', State.setTop_of_frames _ hr', State.setFrames_setFrames, hr]
      rfl
    rw [← hs₂]
    exact hsteps
end OTB
/-- one row of the table, its class cold or warm -/
theorem o_fh {Q : Handler → Pre} {E : CtlPost} {e : Env} {d : Bool} {acts : List Action} {s : State} {f : JFrame} {a : Addr} {x : ClassFile.ExceptionTableEntry} {t : List ClassFile.ExceptionTableEntry} {cT : ClassId} {cell : Cell} (hx : covers x f.pc = true) (h0 : x.catchType ≠ 0)
    (hl : s.vm.ClassLinks e.platform f.method.cls x.catchType cT) (hcell : s.heap[a]? = some cell) (hobj : ∀ k, cell.vm ≠ .statics k)
    (hk : ∃ k, s.vm.classes[cell.cls]? = some k) (hc : ∃ k, s.vm.classes[cT]? = some k) {b : Bool} (hb : s.vm.assignable cell.cls cT = b) :
    wp (findHandler.go f a (x :: t)) Q E e d acts s ↔ (if b = true then Q (.found x.handlerPc) d acts (s.setVm (s.vm.noted f.method.cls x.catchType (.cls cT))) else wp (findHandler.go f a t) Q E e d acts (s.setVm (s.vm.noted f.method.cls x.catchType (.cls cT)))) := by
  simp only [covers] at hx
  obtain ⟨ha, ht⟩ := (resolveClass_links e.toSetting hl).op (op := VmOp.resolveClass f.method.cls x.catchType) rfl
  have hal : s.vm.Alike (s.vm.noted f.method.cls x.catchType (.cls cT)) := (Vm.Alike.refl s.vm).noted _ _ _
  obtain ⟨k1, hk1⟩ := hk
  obtain ⟨k2, hk2⟩ := hc
  obtain ⟨k1', hk1', -⟩ := hal.2.2 _ _ hk1
  obtain ⟨k2', hk2', -⟩ := hal.2.2 _ _ hk2
  have hb' : (s.vm.noted f.method.cls x.catchType (.cls cT)).assignable cell.cls cT = b := by rw [hal.assignable]; exact hb
  cases b <;> simp [findHandler.go, hx, h0, ha, ht, hcell, hobj, hk1', hk2', hb', VmOp.dirties, VmOp.acts]
theorem o_stepC {tb : Tables} {e : Env} {s target : State} {g : JFrame} {c : Code} {below : List Frame} {a : Addr} (h : At s g.method c below) {pc : Nat} {vm' : Vm}
    (hfind : ∀ (Q : Handler → Pre) (E : CtlPost) (d : Bool) (acts : List Action), wp (findHandler g a) Q E e d acts ((s.setTop g).pushFrame (.throwing a)) ↔ Q (.found pc) d acts (((s.setTop g).pushFrame (.throwing a)).setVm vm'))
    (hrest : Steps tb e below ((s.setVm vm').setTop { g with pc := pc, stack := [.ref a] }) target) : Steps tb e below ((s.setTop g).pushFrame (.throwing a)) target := by
  obtain ⟨hgo, hw⟩ := h.throwing a
  refine Steps.head hgo hw ?_
  have key : ∀ (u : State) (r : List Frame), (∀ (Q : Handler → Pre) (E : CtlPost) (d : Bool) (acts : List Action), wp (findHandler g a) Q E e d acts u ↔ Q (.found pc) d acts (u.setVm vm')) →
      (stepThrowing e u a (.java g :: r)).1 = (u.setVm vm').setFrames (.java { g with pc := pc, stack := [.ref a] } :: r) := by
    intro u r hf
    simp only [stepThrowing, searchFrame, vmDo]
    generalize hr : Sem.go _ e false [] u = res
    obtain ⟨as, rfl, ha⟩ := Sem.eq_ok_of hr (a := Handler.found pc) (s' := u.setVm vm') (acts' := []) (by simp [hf _ _ _ _])
    rfl
  rw [stepThread_throwing (frames_entered h.top _), key _ _ hfind]
  obtain ⟨g₀, hg⟩ := Option.isSome_iff_exists.mp h.top
  obtain ⟨r, hr⟩ := State.topJava?_eq_some.mp hg
  have hr' : (s.setVm vm').frames = .java g₀ :: r := hr
  rw [State.setTop_of_frames _ hr'] at hrest
  rw [hr, List.tail_cons]
  have e1 : (((s.setTop g).pushFrame (.throwing a)).setVm vm').setFrames (.java { g with pc := pc, stack := [.ref a] } :: r) = (s.setVm vm').setFrames (.java { g with pc := pc, stack := [.ref a] } :: r) := by
    rw [State.setTop_of_frames _ hr, State.pushFrame, State.setFrames_setFrames]
    show (((s.setFrames _).setVm vm')).setFrames _ = _
    rw [show (s.setFrames (.throwing a :: (s.setFrames (.java g :: r)).frames)).setVm vm' = (s.setVm vm').setFrames (.throwing a :: (s.setFrames (.java g :: r)).frames) from rfl, State.setFrames_setFrames]
  rw [e1]
  exact hrest
section OTC
variable {E : (Nat → Prop) → State → Heap → Prop} {p : Program} {l : Launch} {e : Env} {R : Room} {s : State} {m : MethodId} {args : Array Value} {below : List Frame} {meth : Method} {c : Code} {H : Heap} {locs : List Loc} {cells slots : Nat} {Q : State → Prop}
variable {pc : Nat} {ls : Array Slot} {rest st0 st1 : List Value} {A : Nat → Prop} {D : va_G} {cl : List vw_C} {tys tysc : List (ClassId × FieldType)} {own : String} {bc bytes : ByteArray} {ret ret' : Option FieldType} {nL maxL n : Nat} {cc : Cond} {y : MethodName} {rm : Room} {w0 w1 wc wc1 : va_W} {r : Option Value} {index ex : Nat}
/-- the machine, the exception x being sought in the frame g -/
def o_WT (p : Program) (l : Launch) (e : Env) (R : Room) (s : State) (m : MethodId) (args : Array Value) (below : List Frame) (meth : Method) (c : Code) (H : Heap) (locs : List Loc) (cells slots : Nat) (Q : State → Prop) (g : JFrame) (x : Addr) : Prop :=
  ∀ T : State, T.heap = H → Stand p l e R s m args below meth c T locs cells slots → ∃ t, Steps p.tables e below ((T.setTop g).pushFrame (.throwing x)) t ∧ Q t
abbrev o_tab (c : Code) : List (Nat × Nat × Nat × Nat) := c.exceptionTable.toList.map (fun h => (h.startPc, h.endPc, h.handlerPc, h.catchType))
theorem o_catch1 (hown : s.vm.findClass own = some m.cls) {a1 b1 h1 t1 : Nat} {hh : List (Nat × Nat × Nat × Nat)} (htab : o_tab c = (a1, b1, h1, t1) :: hh) (ha : a1 ≤ pc) (hb : pc < b1) (h0 : t1 ≠ 0) {X1 Xn : String} (hlink : (Cond.classLink own t1 X1).before args s = true) (hcast : (Cond.castable Xn X1).before args s = true)
    {x : Nat} {cell : Cell} (hcell : H[x]? = some cell) (hvm : cell.vm = .none) (hcls : s.vm.findClass Xn = some cell.cls) (kk : W p l e R s m args below meth c H locs cells slots Q (F0 m h1 ls [.ref x])) : o_WT p l e R s m args below meth c H locs cells slots Q (F0 m pc ls rest) x := by
  intro T hT X
  obtain ⟨en, rest', ht, hf, -⟩ := List.map_eq_cons_iff.mp htab
  cases hf
  have hpl : e.platform.magicAccessors = ({} : Platform).magicAccessors := by rw [X.admits.platform]
  obtain ⟨c', hc', hcl⟩ := Cond.classLink_spec hown hlink e.platform hpl
  obtain ⟨c3, cT, hc3, hcT, hasg⟩ := Cond.castable_spec hcast
  cases hc'.symm.trans hcT
  cases hcls.symm.trans hc3
  obtain ⟨dk, _, _, kt, hd, _, _, _, _, hkt, _, hopen⟩ := hcl.here
  have hW' := X.warmed.noted hd hopen (State.rightAt_cls hcl)
  obtain ⟨kt', hkt', -⟩ := X.warmed.alike.2.2 _ _ hkt
  have hfit : T.vm.assignable cell.cls c' = true := by rw [X.warmed.alike.assignable]; exact hasg
  obtain ⟨t, st, hq⟩ := kk (T.setVm (T.vm.noted m.cls en.catchType (.cls c'))) hT (X.noted hW')
  refine ⟨t, o_stepC (g := F0 m pc ls rest) X.here (fun Q' E' d' acts' => ?_) st, hq⟩
  refine (W.findHandler_eq (s := (T.setTop (F0 m pc ls rest)).pushFrame (.throwing x)) (f := F0 m pc ls rest) (meth := meth) (code := c) X.method' X.code).trans ?_
  rw [ht]
  refine (o_fh (s := (T.setTop (F0 m pc ls rest)).pushFrame (.throwing x)) (f := F0 m pc ls rest) (x := en) (cT := c') (cell := cell) (b := true) (by simp [covers, ha, hb]) h0 (X.warmed.classLinks hcl) (by rw [Stand.throwing_heap, hT]; exact hcell) (by rw [hvm]; intro k z; cases z) (Vm.classAt_of_assignable hfit ⟨kt', hkt'⟩) ⟨kt', hkt'⟩ hfit).trans ?_
  rw [if_pos rfl]
  exact Iff.rfl
theorem o_catch2 (hown : s.vm.findClass own = some m.cls) {a1 b1 h1 t1 a2 b2 h2 t2 : Nat} {hh : List (Nat × Nat × Nat × Nat)} (htab : o_tab c = (a1, b1, h1, t1) :: (a2, b2, h2, t2) :: hh) (ha : a1 ≤ pc) (hb : pc < b1) (h0 : t1 ≠ 0) (ha2 : a2 ≤ pc) (hb2 : pc < b2) (h02 : t2 ≠ 0) {X1 X2 Xn : String} (hlink : (Cond.classLink own t1 X1).before args s = true) (hlink2 : (Cond.classLink own t2 X2).before args s = true) (hcast : (Cond.castable Xn X2).before args s = true)
    {x : Nat} {cell : Cell} (hno : ∀ c1, s.vm.findClass X1 = some c1 → s.vm.assignable cell.cls c1 = false) (hcell : H[x]? = some cell) (hvm : cell.vm = .none) (hcls : s.vm.findClass Xn = some cell.cls) (kk : W p l e R s m args below meth c H locs cells slots Q (F0 m h2 ls [.ref x])) : o_WT p l e R s m args below meth c H locs cells slots Q (F0 m pc ls rest) x := by
  intro T hT X
  obtain ⟨en, rest', ht, hf, ht2⟩ := List.map_eq_cons_iff.mp htab
  obtain ⟨en2, rest2, ht3, hf2, -⟩ := List.map_eq_cons_iff.mp ht2
  subst ht3
  cases hf
  cases hf2
  have hpl : e.platform.magicAccessors = ({} : Platform).magicAccessors := by rw [X.admits.platform]
  obtain ⟨c1, hc1, hcl1⟩ := Cond.classLink_spec hown hlink e.platform hpl
  obtain ⟨c', hc', hcl⟩ := Cond.classLink_spec hown hlink2 e.platform hpl
  obtain ⟨c3, cT, hc3, hcT, hasg⟩ := Cond.castable_spec hcast
  cases hc'.symm.trans hcT
  cases hcls.symm.trans hc3
  obtain ⟨dk1, _, _, kt1, hd1, _, _, _, _, hkt1, _, hopen1⟩ := hcl1.here
  obtain ⟨dk, _, _, kt, hd, _, _, _, _, hkt, _, hopen⟩ := hcl.here
  have hW1 := X.warmed.noted hd1 hopen1 (State.rightAt_cls hcl1)
  have hW' := hW1.noted hd hopen (State.rightAt_cls hcl)
  obtain ⟨kt1', hkt1', -⟩ := X.warmed.alike.2.2 _ _ hkt1
  obtain ⟨kt', hkt', -⟩ := X.warmed.alike.2.2 _ _ hkt
  obtain ⟨kt2', hkt2', -⟩ := hW1.alike.2.2 _ _ hkt
  have hfit0 : T.vm.assignable cell.cls c' = true := by rw [X.warmed.alike.assignable]; exact hasg
  have hfit : (T.vm.noted m.cls en.catchType (.cls c1)).assignable cell.cls c' = true := by rw [hW1.alike.assignable]; exact hasg
  have hno1 : T.vm.assignable cell.cls c1 = false := by rw [X.warmed.alike.assignable]; exact hno c1 hc1
  obtain ⟨t, st, hq⟩ := kk (T.setVm ((T.vm.noted m.cls en.catchType (.cls c1)).noted m.cls en2.catchType (.cls c'))) hT (X.noted hW')
  refine ⟨t, o_stepC (g := F0 m pc ls rest) X.here (fun Q' E' d' acts' => ?_) st, hq⟩
  refine (W.findHandler_eq (s := (T.setTop (F0 m pc ls rest)).pushFrame (.throwing x)) (f := F0 m pc ls rest) (meth := meth) (code := c) X.method' X.code).trans ?_
  rw [ht]
  refine (o_fh (s := (T.setTop (F0 m pc ls rest)).pushFrame (.throwing x)) (f := F0 m pc ls rest) (x := en) (cT := c1) (cell := cell) (b := false) (by simp [covers, ha, hb]) h0 (X.warmed.classLinks hcl1) (by rw [Stand.throwing_heap, hT]; exact hcell) (by rw [hvm]; intro k z; cases z) (Vm.classAt_of_assignable hfit0 ⟨kt', hkt'⟩) ⟨kt1', hkt1'⟩ hno1).trans ?_
  rw [if_neg (by decide)]
  refine (o_fh (s := ((T.setTop (F0 m pc ls rest)).pushFrame (.throwing x)).setVm (T.vm.noted m.cls en.catchType (.cls c1))) (f := F0 m pc ls rest) (x := en2) (cT := c') (cell := cell) (b := true) (by simp [covers, ha2, hb2]) h02 (hW1.classLinks hcl) (by show ((T.setTop (F0 m pc ls rest)).pushFrame (.throwing x)).heap[x]? = _; rw [Stand.throwing_heap, hT]; exact hcell) (by rw [hvm]; intro k z; cases z) (Vm.classAt_of_assignable hfit ⟨kt2', hkt2'⟩) ⟨kt2', hkt2'⟩ hfit).trans ?_
  rw [if_pos rfl]
  exact Iff.rfl
/-- invokevirtual of a method that may throw -/
theorem o_VT (hE : o_Ek E) (C : o_Cx E p s m args meth c D cl tys own bc ret nL cc A) {As : List Value} {b q0 ci : Nat} {fs : List Value} {K : String × u_T × Nat} (hM : o_Ct E l D cl tysc y (Cond.code y bytes maxL ret') rm (.ref b :: As) wc wc1 ex r)
    (hKc : va_K D cl tysc s) (hP : va_P D cl wc H) (hD : va_D A wc) (hS : va_S A s.heap H locs) (hl : ls.size = nL) (hc : cl[ci]? = some K) (he : wc[q0]? = some (b, .inr (ci, fs)))
    (h1 : Cond.methodLink own index y ∈ o_WS) (h2 : Cond.instanceMethod y ∈ o_WS) (h3 : Cond.selects K.1 y y ∈ o_WS) (h4 : Cond.initialized K.1 ∈ o_WS) (h5 : Cond.code y bytes maxL ret' ∈ o_WS)
    (hd : y.cls = K.1 ∧ y.cls ≠ "java/lang/invoke/MethodHandle" ∧ y.cls ≠ "java/lang/invoke/VarHandle" ∧ (parseMethodDescriptor y.desc).map (fun d => d.parameters.length) = some As.length)
    (hrc : rm.cells = 1) (hrs : rm.slots = 6) (hR : rm.frames + 1 ≤ R.frames ∧ 8 + (maxL + 11) + rm.locals ≤ R.locals) (hst0 : st0 = As.reverse ++ .ref b :: rest) (hw : (rest.map fun v => v.category).sum ≤ 8) (hf : cells + 1 ≤ R.cells ∧ slots + 6 ≤ R.slots)
    (hdg : decode bc pc = .ok (.invokevirtual index, 3))
    (k0 : ex = 0 → ∀ (H1 : Heap) (locs1 : List Loc), va_P D cl wc1 H1 → (∀ q : Nat, q < H.size → ¬ va_A wc H.size q → H1[q]? = H[q]?) → va_S A s.heap H1 locs1 → W p l e R s m args below meth c H1 locs1 (cells + 1) (slots + 6) Q (F0 m (pc + 3) ls (r.toList ++ rest)))
    (k1 : ex ≠ 0 → ∀ (H1 : Heap) (locs1 : List Loc) (x : Nat) (cell : Cell), va_P D cl wc1 H1 → (∀ q : Nat, q < H.size → ¬ va_A wc H.size q → H1[q]? = H[q]?) → va_S A s.heap H1 locs1 → H1[x]? = some cell → cell.vm = .none → s.vm.findClass (o_exn ex) = some cell.cls → o_WT p l e R s m args below meth c H1 locs1 (cells + 1) (slots + 6) Q (F0 m pc ls rest) x) :
    W p l e R s m args below meth c H locs cells slots Q (F0 m pc ls st0) := by
  subst hst0
  obtain ⟨hx, hb, hr, hlk, hml, hown, hts, hK, hA, he2⟩ := C
  have hinst := hts _ h2
  have hcode := hts _ h5
  obtain ⟨hd1, hd2, hd3, hd4⟩ := hd
  obtain ⟨mk, methM, hnamed, hmethM, hstM, habM⟩ := Cond.instanceMethod_spec hinst
  obtain ⟨methM', cM, hmethM', -, -, -, -, -, -, hsigM⟩ := Cond.code_spec hnamed hcode
  cases hmethM.symm.trans hmethM'
  obtain ⟨c2, r2, m2, q1, q2, q3, q4, kP, hkP, hkPi⟩ := Cond.selects_spec (hts _ h3)
  obtain ⟨cellB, hcB, hoB, hclB⟩ := va_recv hKc hP hc he
  cases hclB.symm.trans q1
  cases (State.methodFound?_of_named hnamed ⟨hd2, hd3⟩).symm.trans q2
  cases hnamed.symm.trans q3
  intro T hT X
  have hselP : selectMethod e.platform s.vm cellB.cls mk = .method mk := by rw [Launch.admits_selectMethod X.admits]; exact q4
  obtain ⟨vm₁, X₁, hstep₁⟩ := X.invokevirtual hx hown (hts _ h1) hnamed hmethM hstM hkP hkPi ⟨hd2, hd3⟩ (a := b) (cell := cellB) (by rw [hT]; exact hcB)
    (fun z h => by rw [h] at hoB; cases hoB) hselP hmethM habM hkP hkPi (g := F0 m pc ls (As.reverse ++ .ref b :: rest)) rfl (argsL := As) (rest := rest) (by rw [hsigM] at hd4; exact (Option.some.inj hd4).symm) rfl (by rw [hb]; exact hdg)
  have hgood : ∀ w ∈ (Cond.code y bytes maxL ret' :: o_WS), ∀ (a' : Array Value) (U : State), s.WarmedH U.vm → w.before a' U = true := by
    intro w hw a' U hW
    rcases List.mem_cons.mp hw with rfl | hw
    · exact word_at hW (good_of_word (List.mem_filter.mp h5).2) hcode
    · exact word_at hW (good_of_word (List.mem_filter.mp hw).2) (hts w hw)
  have hpre : o_Pc E D cl tysc (.ref b :: As) wc H.size (Value.ref b :: As).toArray (T.setVm vm₁) := by
    refine ⟨rfl, by show T.heap.size = _; rw [hT], by show va_P D cl wc T.heap; rw [hT]; exact hP, va_K.moved X₁.warmed.alike hKc, hD.weaken (fun _ _ _ _ => trivial), ?_⟩
    exact hE A (va_A wc H.size) s (T.setVm vm₁) s.heap T.heap X₁.warmed (o_sub hD hA hS) (fun q h1 h2 => by rw [hT]; exact hS.2.1 q h1 h2) he2
  obtain ⟨o, t, U', L, X', e1, e2, ⟨⟨hr0, hr1⟩, hP1, hz, hk⟩, hL, st0, st1⟩ := o_bkT (len := 3) (W0 := 8) (ig := .invokevirtual index) (mk := mk) (hM H.size) (o_blind hE) hrc hrs hR.1 hR.2 hgood List.mem_cons_self (fun a' U hW => by rw [hd1]; exact word_at hW (good_of_word (List.mem_filter.mp h4).2) (hts _ h4)) X₁ (g := F0 m pc ls rest) rfl (hl.trans hml.symm) (by rw [hb]; exact hdg) (lv_room hw) (X₁.named hnamed) hf.1 hf.2 hpre
  have hh0 : ((T.setVm vm₁).calling (F0 m pc ls rest) mk (Value.ref b :: As).toArray).heap = H := hT
  have hv0 : ((T.setVm vm₁).calling (F0 m pc ls rest) mk (Value.ref b :: As).toArray).vm = vm₁ := rfl
  rw [hh0] at hz hk
  have hS1 : va_S A s.heap U'.heap (locs ++ L) := ⟨Nat.le_trans hS.1 (by rw [e1]; exact hz), fun q h1 h2 => by rw [e1, hk q (Nat.lt_of_lt_of_le h1 hS.1) (fun z => h2 (o_sub hD hA hS q z))]; exact hS.2.1 q h1 h2, fun q hq => by
      rcases List.mem_append.mp hq with h | h
      · exact hS.2.2 q h
      · exact o_sub hD hA hS _ (hL q h)⟩
  by_cases hex : ex = 0
  · have ho := hr0 hex
    obtain ⟨t2, a1, b1⟩ := k0 hex U'.heap (locs ++ L) (by rw [e1]; exact hP1) (fun q h1 h2 => by rw [e1]; exact hk q h1 h2) hS1 U' rfl X'
    exact ⟨t2, hstep₁ _ fun acts => by rw [doInvoke_state]; exact (st0 _ ho).trans a1, b1⟩
  · obtain ⟨x, cell, ho, hxc, hxv, hxf⟩ := hr1 hex
    obtain ⟨t2, a1, b1⟩ := k1 hex U'.heap (locs ++ L) x cell (by rw [e1]; exact hP1) (fun q h1 h2 => by rw [e1]; exact hk q h1 h2) hS1 (by rw [e1]; exact hxc) hxv (by rw [hv0] at hxf; rw [← X₁.warmed.alike.findClass]; exact hxf) U' rfl X'
    exact ⟨t2, hstep₁ _ fun acts => by rw [doInvoke_state]; exact (st1 _ ho).trans a1, b1⟩
/-- a method with an exception table, that always returns -/
def o_Cw (E : (Nat → Prop) → State → Heap → Prop) (l : Launch) (D : va_G) (cl : List vw_C) (tys : List (ClassId × FieldType)) (y : MethodName) (cc : Cond) (rm : Room) (av : List Value) (w0 w1 : va_W) (r : Option Value) : Prop :=
  ∀ sz : Nat, Met l y (cc :: o_WS) rm (o_Pc E D cl tys av w0 sz) (o_Qx D cl r w1 (va_A w0 sz)) 1 6 (va_A w0 sz)
theorem o_Cw_of {av : List Value} {hh : List (Nat × Nat × Nat × Nat)} (hy : plainName y.cls = true) (hlen : (lg_sl av).length ≤ nL)
    (body : ∀ (p : Program) (e : Env) (s : State) (m : MethodId) (below : List Frame) (meth : Method) (c : Code) (A : Nat → Prop) (ls : Array Slot), o_tab c = hh → o_Cx E p s m av.toArray meth c D cl tys y.cls bc ret nL (Cond.codeWith y bc nL ret hh) A → va_D A w0 → va_P D cl w0 s.heap → va_S A s.heap s.heap [] → lv_has ls nL (lv_args 0 av) →
      W p l e rm s m av.toArray below meth c s.heap [] 0 0 (MQ below (o_Qx D cl r w1 A) av.toArray s 1 6 A) (F0 m 0 ls [])) : o_Cw E l D cl tys y (Cond.codeWith y bc nL ret hh) rm av w0 w1 r := by
  intro sz
  refine va_MetW (cc := bc) (maxL := nL) (ret := ret) (hh := hh) hy rfl ?_
  intro p e s m args below meth c s₁ B hml hv
  obtain ⟨rfl, hsz, hP, hK, hD0, hE⟩ := hv
  have hts := atoms_spec (ws := Cond.codeWith y bc nL ret hh :: o_WS) B.pre
  have hown : s.vm.findClass y.cls = some m.cls := findClass_of_methodNamed B.named
  obtain ⟨m9, meth9, c9, hn9, hm9, hc9, -, -, ht9, -, -, -⟩ := Cond.codeWith_spec (hts _ List.mem_cons_self)
  cases B.named.symm.trans hn9
  cases B.method.symm.trans hm9
  cases (Stand.of_body B).code.symm.trans hc9
  subst hsz
  have hD := hD0.self (sz := s.heap.size)
  have hl := lv_entry av (n := nL) hlen
  rw [lg_entry_eq]
  exact body p e s m below meth c (va_A w0 s.heap.size) _ ht9 ⟨B.exec, B.bytes, B.returns, B.notSynchronized, hml, hown, fun w hw => hts w (List.mem_cons_of_mem _ hw), hK, fun q h => Or.inr h, hE⟩ hD hP va_S.rf hl
/-- behind a call, with what the callee leaves alone -/
theorem o_callF {a : Array Value} {A0 A1 : Nat → Prop} {H0 : Heap} {free : Addr → Prop} {mc ms : Nat} (hr : va_Run p l e R s m args below meth c H locs cells slots mc ms (F0 m pc ls st0) rest (o_Qx D cl r w1 A1 a) free) (hS : va_S A0 H0 H locs) (hA : ∀ q, q < H.size → A1 q → A0 q) (hf : ∀ q, free q → A0 q) (hst : r.toList ++ rest = st1)
    (kk : ∀ (H1 : Heap) (locs1 : List Loc), va_P D cl w1 H1 → (∀ q : Nat, q < H.size → ¬ A1 q → H1[q]? = H[q]?) → va_S A0 H0 H1 locs1 → W p l e R s m args below meth c H1 locs1 (cells + mc) (slots + ms) Q (F0 m (pc + 3) ls st1)) : W p l e R s m args below meth c H locs cells slots Q (F0 m pc ls st0) := by
  subst hst
  intro T hT X
  obtain ⟨v, st₀, t, T', L, h0, X', hL, e1, e2, ⟨hv, hp, hz, hk⟩, st⟩ := hr T hT X
  cases hv
  rw [h0] at hz hk
  obtain ⟨t2, a1, b1⟩ := kk T'.heap (locs ++ L) (by rw [e1]; exact hp) (fun q h1 h2 => by rw [e1]; exact hk q h1 h2)
    ⟨Nat.le_trans hS.1 (by rw [e1]; exact hz), fun q h1 h2 => by rw [e1, hk q (Nat.lt_of_lt_of_le h1 hS.1) (fun z => h2 (hA q (Nat.lt_of_lt_of_le h1 hS.1) z))]; exact hS.2.1 q h1 h2, fun q hq => by
      rcases List.mem_append.mp hq with h | h
      · exact hS.2.2 q h
      · exact hf _ (hL q h)⟩ T' rfl X'
  exact ⟨t2, st t2 a1, b1⟩
/-- invokestatic of a method with an exception table -/
theorem o_SW (hE : o_Ek E) (C : o_Cx E p s m args meth c D cl tys own bc ret nL cc A) {As : List Value} {hh : List (Nat × Nat × Nat × Nat)} (hM : o_Cw E l D cl tysc y (Cond.codeWith y bytes maxL ret' hh) rm As wc wc1 r)
    (hKc : va_K D cl tysc s) (hP : va_P D cl wc H) (hD : va_D A wc) (hS : va_S A s.heap H locs) (hl : ls.size = nL)
    (h1 : Cond.methodLink own index y ∈ o_WS) (h2 : Cond.static y ∈ o_WS) (h4 : Cond.initialized y.cls ∈ o_WS) (h5 : Cond.codeWith y bytes maxL ret' hh ∈ o_WS)
    (hd : y.cls ≠ "java/lang/invoke/MethodHandle" ∧ y.cls ≠ "java/lang/invoke/VarHandle" ∧ (parseMethodDescriptor y.desc).map (fun d => d.parameters.length) = some As.length)
    (hrc : rm.cells = 1) (hrs : rm.slots = 6) (hR : rm.frames + 1 ≤ R.frames ∧ 8 + (maxL + 11) + rm.locals ≤ R.locals) (hst0 : st0 = As.reverse ++ rest) (hw : (rest.map fun v => v.category).sum ≤ 8) (hf : cells + 1 ≤ R.cells ∧ slots + 6 ≤ R.slots) (hst : r.toList ++ rest = st1)
    (hdg : decode bc pc = .ok (.invokestatic index, 3))
    (kk : ∀ (H1 : Heap) (locs1 : List Loc), va_P D cl wc1 H1 → (∀ q : Nat, q < H.size → ¬ va_A wc H.size q → H1[q]? = H[q]?) → va_S A s.heap H1 locs1 → W p l e R s m args below meth c H1 locs1 (cells + 1) (slots + 6) Q (F0 m (pc + 3) ls st1)) : W p l e R s m args below meth c H locs cells slots Q (F0 m pc ls st0) := by
  subst hst0
  obtain ⟨hx, hb, hr, hlk, hml, hown, hts, hK, hA, he2⟩ := C
  have hcode := hts _ h5
  obtain ⟨hd2, hd3, hd4⟩ := hd
  obtain ⟨mk, methM, cM, hnamed, hmethM, -, -, -, -, -, -, hsigM⟩ := Cond.codeWith_spec hcode
  have hstatic : methM.isStatic = true := Cond.static_spec hnamed hmethM (hts _ h2)
  obtain ⟨kP, hkP, -⟩ := className_of_methodNamed hnamed
  have hinitP : kP.init = .initialized := Cond.initialized_spec (findClass_of_methodNamed hnamed) hkP (hts _ h4)
  have hgood : ∀ w ∈ (Cond.codeWith y bytes maxL ret' hh :: o_WS), ∀ (a' : Array Value) (U : State), s.WarmedH U.vm → w.before a' U = true := by
    intro w hw a' U hW
    rcases List.mem_cons.mp hw with rfl | hw
    · exact word_at hW (good_of_word (List.mem_filter.mp h5).2) hcode
    · exact word_at hW (good_of_word (List.mem_filter.mp hw).2) (hts w hw)
  have hBk : Back l R p e below s args y 3 8 (PreOf R 1 6 (o_Pc E D cl tysc As wc H.size)) (PostOf (o_Qx D cl r wc1 (va_A wc H.size)) 1 6 (va_A wc H.size)) :=
    va_backW (hh := hh) (bytes := bytes) (maxL := maxL) (ret := ret') (hM H.size) (o_blind hE) hrc hrs hR.1 hR.2 hgood List.mem_cons_self (fun a' U hW => word_at hW (good_of_word (List.mem_filter.mp h4).2) (hts _ h4))
  refine o_callF (a := As.toArray) (mc := 1) (ms := 6) (A1 := va_A wc H.size) (free := va_A wc H.size) ?_ hS (fun q _ h => o_sub hD hA hS q h) (o_sub hD hA hS) hst kk
  intro T hT X
  obtain ⟨vm₁, X₁, hstep₁⟩ := X.invokestatic hx hown (hts _ h1) hnamed hmethM hstatic hkP hinitP ⟨hd2, hd3⟩ (g := F0 m pc ls (As.reverse ++ rest)) rfl (argsL := As) (rest := rest) (by rw [hsigM] at hd4; exact (Option.some.inj hd4).symm) rfl (by rw [hb]; exact hdg)
  have hpre : o_Pc E D cl tysc As wc H.size As.toArray (T.setVm vm₁) := by
    refine ⟨rfl, by show T.heap.size = _; rw [hT], by show va_P D cl wc T.heap; rw [hT]; exact hP, va_K.moved X₁.warmed.alike hKc, hD.weaken (fun _ _ _ _ => trivial), ?_⟩
    exact hE A (va_A wc H.size) s (T.setVm vm₁) s.heap T.heap X₁.warmed (o_sub hD hA hS) (fun q h1 h2 => by rw [hT]; exact hS.2.1 q h1 h2) he2
  obtain ⟨v, B, X', ⟨g', mk', t, L, e1, e2, hq, h1', hL, h2', h3'⟩, hsteps⟩ := hBk m meth c ⟨T.setVm vm₁, locs, cells, slots⟩ (F0 m pc ls rest) (.invokestatic index) mk As.toArray X₁ rfl (hl.trans hml.symm) (by rw [hb]; exact hdg) (lv_room hw) (X₁.named hnamed) ⟨hf.1, hf.2, hpre⟩
  obtain ⟨U', l2, c2, s2⟩ := B
  dsimp only [Pt.U, Pt.locs, Pt.cells, Pt.slots] at X' e1 e2 h1' h2' h3' hsteps
  subst h1'; subst h2'; subst h3'
  exact ⟨v, (T.setVm vm₁).calling g' mk' As.toArray, t, U', L, hT, X', hL, e1, e2, hq, fun target h => hstep₁ _ fun acts => by rw [doInvoke_state]; exact hsteps.trans h⟩
end OTC
/-! Constructors: they make cells -/
def o_Qi (D : va_G) (cl : List vw_C) (Post : va_W → List (ClassId × FieldType) → Prop) (A : Nat → Prop) : Array Value → State → Outcome → State → Prop := fun _ st oc t =>
  (oc = .returned none ∧ ∃ (w1 : va_W) (tys1 : List (ClassId × FieldType)), Post w1 tys1 ∧ va_P D cl w1 t.heap ∧ va_D A w1 ∧ va_K D cl tys1 t) ∧ va_F A st t
def o_Ci (E : (Nat → Prop) → State → Heap → Prop) (l : Launch) (D : va_G) (cl : List vw_C) (y : MethodName) (cc : Cond) (rm : Room) (av : List Value) (w0 : va_W) (Post : va_W → List (ClassId × FieldType) → Prop) (mc ms : Nat) : Prop :=
  ∀ sz : Nat, Met l y (cc :: o_WS) rm (o_Pc E D cl [] av w0 sz) (o_Qi D cl Post (va_A w0 sz)) mc ms (va_A w0 sz)
theorem o_Ci_of {E : (Nat → Prop) → State → Heap → Prop} {l : Launch} {D : va_G} {cl : List vw_C} {y : MethodName} {bc : ByteArray} {nL : Nat} {rm : Room} {av : List Value} {w0 : va_W} {Post : va_W → List (ClassId × FieldType) → Prop} {mc ms : Nat}
    (hy : plainName y.cls = true) (hyn : y.name = "<init>") (hlen : (lg_sl av).length ≤ nL)
    (body : ∀ (p : Program) (e : Env) (s : State) (m : MethodId) (below : List Frame) (meth : Method) (c : Code) (A : Nat → Prop) (ls : Array Slot), meth.name = "<init>" → o_Cx E p s m av.toArray meth c D cl [] y.cls bc none nL (Cond.code y bc nL none) A → va_D A w0 → va_P D cl w0 s.heap → va_S A s.heap s.heap [] → lv_has ls nL (lv_args 0 av) →
      W p l e rm s m av.toArray below meth c s.heap [] 0 0 (MQ below (o_Qi D cl Post A) av.toArray s mc ms A) (F0 m 0 ls [])) : o_Ci E l D cl y (Cond.code y bc nL none) rm av w0 Post mc ms := by
  intro sz
  refine Met.ofW (cc := bc) (maxL := nL) (ret := none) hy rfl ?_
  intro p e s m args below meth c s₁ B hml hv
  obtain ⟨rfl, hsz, hP, hK, hD0, hE⟩ := hv
  have hts := atoms_spec (ws := Cond.code y bc nL none :: o_WS) B.pre
  have hown : s.vm.findClass y.cls = some m.cls := findClass_of_methodNamed B.named
  have hnm : meth.name = "<init>" := (name_of_methodNamed B.named B.method).1.trans hyn
  subst hsz
  have hD := hD0.self (sz := s.heap.size)
  have hl := lv_entry av (n := nL) hlen
  rw [lg_entry_eq]
  exact body p e s m below meth c (va_A w0 s.heap.size) _ hnm ⟨B.exec, B.bytes, B.returns, B.notSynchronized, hml, hown, fun w hw => hts w (List.mem_cons_of_mem _ hw), hK, fun q h => Or.inr h, hE⟩ hD hP va_S.rf hl
section OCI
variable {E : (Nat → Prop) → State → Heap → Prop} {p : Program} {l : Launch} {e : Env} {R : Room} {s : State} {m : MethodId} {args : Array Value} {below : List Frame} {meth : Method} {c : Code} {H : Heap} {locs : List Loc} {cells slots : Nat} {Q : State → Prop}
variable {pc : Nat} {ls : Array Slot} {rest st0 st1 : List Value} {A : Nat → Prop} {D : va_G} {cl : List vw_C} {tys tys1 : List (ClassId × FieldType)} {own : String} {bc bytes : ByteArray} {ret ret' : Option FieldType} {nL maxL n : Nat} {cc : Cond} {y : MethodName} {rm : Room} {w0 w1 wc : va_W} {index : Nat} {Post : va_W → List (ClassId × FieldType) → Prop} {mc ms : Nat}
theorem o_rvi (C : o_Cx E p s m args meth c D cl tys own bc none nL cc A) (hpost : Post w1 tys1) (hK : va_K D cl tys1 s) (hP : va_P D cl w1 H) (hD : va_D A w1) (hS : va_S A s.heap H locs) (hdg : decode bc pc = .ok (.return_, 1)) : W p l e R s m args below meth c H locs cells slots (MQ below (o_Qi D cl Post A) args s cells slots A) (F0 m pc ls []) := by
  obtain ⟨hx, hb, hr, hlk, hml, hown, hts, -, hA, he2⟩ := C
  exact W.vret hx hb hr (fun t ht hW => ⟨⟨rfl, w1, tys1, hpost, by rw [ht]; exact hP, hD, va_K.moved hW.alike hK⟩, hS.F ht⟩) hS.2.2 hdg
theorem o_calI {a : Array Value} {A1 : Nat → Prop} {free : Addr → Prop} (hr : va_Run p l e R s m args below meth c H locs cells slots mc ms (F0 m pc ls st0) rest (o_Qi D cl Post A1 a) free) (hS : va_S A s.heap H locs) (hA : ∀ q, q < H.size → A1 q → A q) (hf : ∀ q, free q → A q)
    (kk : ∀ (w1 : va_W) (tys1 : List (ClassId × FieldType)) (H1 : Heap) (locs1 : List Loc), Post w1 tys1 → va_K D cl tys1 s → va_P D cl w1 H1 → va_D A1 w1 → (∀ q : Nat, q < H.size → ¬ A1 q → H1[q]? = H[q]?) → va_S A s.heap H1 locs1 → W p l e R s m args below meth c H1 locs1 (cells + mc) (slots + ms) Q (F0 m (pc + 3) ls rest)) : W p l e R s m args below meth c H locs cells slots Q (F0 m pc ls st0) := by
  intro T hT X
  obtain ⟨v, st₀, t, T', L, h0, X', hL, e1, e2, ⟨⟨hv, w1, tys1, hpost, hP1, hD1, hK1⟩, hz, hk⟩, st⟩ := hr T hT X
  cases hv
  rw [h0] at hz hk
  obtain ⟨t2, a1, b1⟩ := kk w1 tys1 T'.heap (locs ++ L) hpost (va_K.moved (u := t) (U := s) (by rw [← e2]; exact X'.warmed.alike.symm) hK1) (by rw [e1]; exact hP1) hD1 (fun q h1 h2 => by rw [e1]; exact hk q h1 h2)
    ⟨Nat.le_trans hS.1 (by rw [e1]; exact hz), fun q h1 h2 => by rw [e1, hk q (Nat.lt_of_lt_of_le h1 hS.1) (fun z => h2 (hA q (Nat.lt_of_lt_of_le h1 hS.1) z))]; exact hS.2.1 q h1 h2, fun q hq => by
      rcases List.mem_append.mp hq with h | h
      · exact hS.2.2 q h
      · exact hf _ (hL q h)⟩ T' rfl X'
  exact ⟨t2, st t2 a1, b1⟩
theorem o_preI (hE : o_Ek E) (C : o_Cx E p s m args meth c D cl tys own bc ret nL cc A) {av : List Value} (hP : va_P D cl wc H) (hD : va_D A wc) (hS : va_S A s.heap H locs) : ∀ U : State, U.heap = H → s.WarmedH U.vm → o_Pc E D cl [] av wc H.size av.toArray U := by
  obtain ⟨hx, hb, hr, hlk, hml, hown, hts, hK, hA, he⟩ := C
  intro U hU hW
  refine ⟨rfl, by rw [hU], by rw [hU]; exact hP, ⟨fun c q h => (va_K.moved hW.alike hK).1 c q h, fun k q h => by cases h⟩, hD.weaken (fun _ _ _ _ => trivial), ?_⟩
  exact hE A (va_A wc H.size) s U s.heap U.heap hW (o_sub hD hA hS) (fun q h1 h2 => by rw [hU]; exact hS.2.1 q h1 h2) he
/-- invokespecial of a constructor -/
theorem o_I (hE : o_Ek E) (C : o_Cx E p s m args meth c D cl tys own bc ret nL cc A) {As : List Value} {b : Nat} (hM : o_Ci E l D cl y (Cond.code y bytes maxL none) rm (.ref b :: As) wc Post mc ms)
    (hP : va_P D cl wc H) (hD : va_D A wc) (hS : va_S A s.heap H locs) (hl : ls.size = nL)
    (h1 : Cond.methodLink own index y ∈ o_WS) (h2 : Cond.instanceMethod y ∈ o_WS) (h4 : Cond.initialized y.cls ∈ o_WS) (h5 : Cond.code y bytes maxL none ∈ o_WS) (hyn : y.name = "<init>")
    (hd : y.cls ≠ "java/lang/invoke/MethodHandle" ∧ y.cls ≠ "java/lang/invoke/VarHandle" ∧ (parseMethodDescriptor y.desc).map (fun d => d.parameters.length) = some As.length)
    (hrc : rm.cells = mc) (hrs : rm.slots = ms) (hR : rm.frames + 1 ≤ R.frames ∧ 8 + (maxL + 11) + rm.locals ≤ R.locals) (hst0 : st0 = As.reverse ++ .ref b :: rest) (hw : (rest.map fun v => v.category).sum ≤ 8) (hf : cells + mc ≤ R.cells ∧ slots + ms ≤ R.slots)
    (hdg : decode bc pc = .ok (.invokespecial index, 3))
    (kk : ∀ (w1 : va_W) (tys1 : List (ClassId × FieldType)) (H1 : Heap) (locs1 : List Loc), Post w1 tys1 → va_K D cl tys1 s → va_P D cl w1 H1 → va_D (va_A wc H.size) w1 → (∀ q : Nat, q < H.size → ¬ va_A wc H.size q → H1[q]? = H[q]?) → va_S A s.heap H1 locs1 → W p l e R s m args below meth c H1 locs1 (cells + mc) (slots + ms) Q (F0 m (pc + 3) ls rest)) : W p l e R s m args below meth c H locs cells slots Q (F0 m pc ls st0) := by
  have C0 := C
  obtain ⟨hx, hb, hr, hlk, hml, hown, hts, hK, hA, he2⟩ := C
  exact o_calI (va_runI (As := As) (rest := rest) (g := F0 m pc ls st0) ⟨hx, hb, hml, hown, hts⟩ (hM H.size) ⟨callB_of As.length hts (o_gD h5) rfl hrc hrs (hts _ h4) (hts _ h1) hd hR, hyn, hts _ h2⟩ ⟨o_blind hE, o_preI hE C0 (av := .ref b :: As) hP hD hS⟩ rfl rfl hl hst0 (lv_room hw) hdg hf) hS (fun q _ h => o_sub hD hA hS q h) (o_sub hD hA hS) kk
/-- invokespecial of a nest mate's private constructor -/
theorem o_IN (hE : o_Ek E) (C : o_Cx E p s m args meth c D cl tys own bc ret nL cc A) {As : List Value} {b : Nat} {host : String} (hM : o_Ci E l D cl y (Cond.code y bytes maxL none) rm (.ref b :: As) wc Post mc ms)
    (hP : va_P D cl wc H) (hD : va_D A wc) (hS : va_S A s.heap H locs) (hl : ls.size = nL)
    (h1 : va_Nw (Cond.methodLinkNest own index y host) s) (h2 : Cond.instanceMethod y ∈ o_WS) (h4 : Cond.initialized y.cls ∈ o_WS) (h5 : Cond.code y bytes maxL none ∈ o_WS) (hyn : y.name = "<init>")
    (hd : y.cls ≠ "java/lang/invoke/MethodHandle" ∧ y.cls ≠ "java/lang/invoke/VarHandle" ∧ (parseMethodDescriptor y.desc).map (fun d => d.parameters.length) = some As.length)
    (hrc : rm.cells = mc) (hrs : rm.slots = ms) (hR : rm.frames + 1 ≤ R.frames ∧ 8 + (maxL + 11) + rm.locals ≤ R.locals) (hst0 : st0 = As.reverse ++ .ref b :: rest) (hw : (rest.map fun v => v.category).sum ≤ 8) (hf : cells + mc ≤ R.cells ∧ slots + ms ≤ R.slots)
    (hdg : decode bc pc = .ok (.invokespecial index, 3))
    (kk : ∀ (w1 : va_W) (tys1 : List (ClassId × FieldType)) (H1 : Heap) (locs1 : List Loc), Post w1 tys1 → va_K D cl tys1 s → va_P D cl w1 H1 → va_D (va_A wc H.size) w1 → (∀ q : Nat, q < H.size → ¬ va_A wc H.size q → H1[q]? = H[q]?) → va_S A s.heap H1 locs1 → W p l e R s m args below meth c H1 locs1 (cells + mc) (slots + ms) Q (F0 m (pc + 3) ls rest)) : W p l e R s m args below meth c H locs cells slots Q (F0 m pc ls st0) := by
  have C0 := C
  obtain ⟨hx, hb, hr, hlk, hml, hown, hts, hK, hA, he2⟩ := C
  exact o_calI (va_runIN (As := As) (rest := rest) (g := F0 m pc ls st0) ⟨hx, hb, hml, hown, hts⟩ (hM H.size) ⟨va_cnB As.length hts (o_gD h5) rfl hrc hrs h1 (hts _ h4) hd hR, hyn, hts _ h2⟩ ⟨o_blind hE, o_preI hE C0 (av := .ref b :: As) hP hD hS⟩ rfl rfl hl hst0 (lv_room hw) hdg hf) hS (fun q _ h => o_sub hD hA hS q h) (o_sub hD hA hS) kk
end OCI
theorem o_anyS {E : (Nat → Prop) → State → Heap → Prop} {kd sd vd xd : Nat → Nat} {p : Program} {s : State} {m : MethodId} {args : Array Value} {meth : Method} {c : Code} {H : Heap} {locs : List Loc} {D : va_G} {cl : List vw_C} {tys : List (ClassId × FieldType)} {own : String} {bc : ByteArray} {ret : Option FieldType} {nL k : Nat} {cc : Cond} {A : Nat → Prop}
    (hE : o_EK E kd sd vd xd) (C : o_Cx E p s m args meth c D cl tys own bc ret nL cc A) (hk : o_sb k = true) (hS : va_S A s.heap H locs) : va_Any "java/lang/String" s H (sd k) := by
  obtain ⟨cell, h1, h2, h3⟩ := o_rs hE C hk hS
  obtain ⟨kC, hkC, -⟩ := Vm.findClass_spec h3
  refine ⟨cell, h1, h2, ⟨kC, hkC⟩, fun comp h => ?_⟩
  cases h3.symm.trans h
  show s.vm.assignableAux (255 + 1) _ _ = true
  unfold Vm.assignableAux
  simp
