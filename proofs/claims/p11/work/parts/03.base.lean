/-! Pure words of the mirrors: bind, a name, a guard, a loop with fuel -/
def o_bd {α β : Type} (o : Option α) (k : α → Option β) : Option β := o.bind k
def o_nm {α β : Type} (x : α) (k : α → Option β) : Option β := k x
def o_gd {β : Type} (b : Bool) (k : Option β) : Option β := if b = true then k else none
def o_lp {σ : Type} : Nat → (σ → Option (Nat × σ)) → σ → Option (Nat × σ)
  | 0, _, _ => none
  | n + 1, f, z => o_bd (f z) fun q => if q.1 = 0 then o_lp n f q.2 else some q
def o_in (i : Int32) (n : Nat) : Bool := !(decide (i < 0) || decide (n ≤ i.toNatClampNeg))
def o_zb (x : Int32) : Bool := decide (x = 0) || decide (x = 1)
def o_nz (x : Int64) : Bool := !decide (x = 0)
def o_cp (sp dp n : Int32) (a b : Nat) : Bool := !decide (sp < 0) && !decide (dp < 0) && !decide (n < 0) && decide (sp.toNatClampNeg + n.toNatClampNeg ≤ a) && decide (dp.toNatClampNeg + n.toNatClampNeg ≤ b)
theorem o_bd_some {α β : Type} {o : Option α} {k : α → Option β} {r : β} (h : o_bd o k = some r) : ∃ a, o = some a ∧ k a = some r := by
  cases o with
  | none => cases h
  | some a => exact ⟨a, rfl, h⟩
theorem o_nm_at {α β : Type} {x e : α} {k : α → Option β} {r : β} (ex : x = e) (h : o_nm e k = some r) : k x = some r := by
  subst ex
  exact h
theorem o_gd_some {β : Type} {b : Bool} {k : Option β} {r : β} (h : o_gd b k = some r) : b = true ∧ k = some r := by
  unfold o_gd at h
  split at h
  · exact ⟨by assumption, h⟩
  · cases h
theorem o_tt {β : Type} {c : Prop} [Decidable c] {A B : Option β} {r : β} (hc : c) (h : (if c then A else B) = some r) : A = some r := by rwa [if_pos hc] at h
theorem o_ff {β : Type} {c : Prop} [Decidable c] {A B : Option β} {r : β} (hc : ¬ c) (h : (if c then A else B) = some r) : B = some r := by rwa [if_neg hc] at h
theorem o_in_in {i : Int32} {n : Nat} (h : o_in i n = true) : vp_in i n := by
  unfold o_in at h
  unfold vp_in
  simpa using h
theorem o_zb_or {x : Int32} (h : o_zb x = true) : x = 0 ∨ x = 1 := by
  unfold o_zb at h
  simpa using h
theorem o_zb_nar {x : Int32} (h : o_zb x = true) : narrow .boolean (.int x) = .int x := by
  rcases o_zb_or h with rfl | rfl <;> rfl
theorem o_zb_fit {x : Int32} (h : o_zb x = true) : fits .boolean (.int x) = true := by
  rcases o_zb_or h with rfl | rfl <;> rfl
theorem o_sim {σ : Type} {f : σ → Option (Nat × σ)} (At : Nat → σ → Prop) (hb : ∀ z q, f z = some q → At q.1 q.2 → At 0 z) :
    ∀ n z q, o_lp n f z = some q → At q.1 q.2 → At 0 z := by
  intro n
  induction n with
  | zero => intro z q h; cases h
  | succ n ih =>
    intro z q h hA
    obtain ⟨a, ha, h⟩ := o_bd_some h
    by_cases h0 : a.1 = 0
    · have h := o_tt h0 h
      exact hb z a ha (by rw [h0]; exact ih a.2 q h hA)
    · have h := o_ff h0 h
      cases h
      exact hb z _ ha hA
/-! A method whose answer and world are known -/
def o_Qx (D : va_G) (cl : List vw_C) (r : Option Value) (w1 : va_W) (A : Nat → Prop) : Array Value → State → Outcome → State → Prop := fun _ st oc t => oc = .returned r ∧ va_P D cl w1 t.heap ∧ va_F A st t
/-- a predicate of what nobody writes: it stays -/
def o_Ek (E : (Nat → Prop) → State → Heap → Prop) : Prop := ∀ (A B : Nat → Prop) (u U : State) (H H1 : Heap), u.WarmedH U.vm → (∀ q, B q → A q) → (∀ a : Nat, a < H.size → ¬ A a → H1[a]? = H[a]?) → E A u H → E B U H1
def o_Pc (E : (Nat → Prop) → State → Heap → Prop) (D : va_G) (cl : List vw_C) (tys : List (ClassId × FieldType)) (av : List Value) (w0 : va_W) (sz : Nat) : Array Value → State → Prop :=
  va_Pc av (fun U => U.heap.size = sz ∧ va_P D cl w0 U.heap ∧ va_K D cl tys U ∧ va_D (fun _ => True) w0 ∧ E (va_A w0 sz) U U.heap)
def o_Cn (E : (Nat → Prop) → State → Heap → Prop) (l : Launch) (D : va_G) (cl : List vw_C) (tys : List (ClassId × FieldType)) (y : MethodName) (cc : Cond) (rm : Room) (av : List Value) (w0 w1 : va_W) (r : Option Value) : Prop :=
  ∀ sz : Nat, Met l y (cc :: o_WS) rm (o_Pc E D cl tys av w0 sz) (o_Qx D cl r w1 (va_A w0 sz)) 0 0 (va_A w0 sz)
def o_Cx (E : (Nat → Prop) → State → Heap → Prop) (p : Program) (s : State) (m : MethodId) (args : Array Value) (meth : Method) (c : Code) (D : va_G) (cl : List vw_C) (tys : List (ClassId × FieldType)) (own : String) (bc : ByteArray) (ret : Option FieldType) (nL : Nat) (cc : Cond) (A : Nat → Prop) : Prop :=
  p.tables.exec = Jvm.exec ∧ c.code = bc ∧ meth.sig.returnType = ret ∧ meth.locks = false ∧ c.maxLocals = nL ∧ s.vm.findClass own = some m.cls ∧ (∀ w ∈ o_WS, w.before args s = true) ∧ va_K D cl tys s ∧ (∀ q, s.heap.size ≤ q → A q) ∧ E A s s.heap
theorem o_D_map {A : Nat → Prop} {w w' : va_W} (h : va_D A w) (e : w'.map Prod.fst = w.map Prod.fst) : va_D A w' := by
  have key : ∀ (k : Nat) (q : Nat × va_E), w'[k]? = some q → ∃ q0, w[k]? = some q0 ∧ q0.1 = q.1 := by
    intro k q hk
    have h1 : (w'.map Prod.fst)[k]? = some q.1 := by rw [List.getElem?_map, hk]; rfl
    rw [e, List.getElem?_map] at h1
    cases hw : w[k]? with
    | none => rw [hw] at h1; cases h1
    | some q0 => rw [hw] at h1; exact ⟨q0, rfl, Option.some.inj h1⟩
  refine ⟨fun i j p q hi hj hpq => ?_, fun k q hk => ?_⟩
  · obtain ⟨p0, h1, h2⟩ := key i p hi
    obtain ⟨q0, h3, h4⟩ := key j q hj
    exact h.1 i j p0 q0 h1 h3 (by rw [h2, h4, hpq])
  · obtain ⟨q0, h1, h2⟩ := key k q hk
    rw [← h2]
    exact h.2 k q0 h1
theorem o_sub {A : Nat → Prop} {w : va_W} {H0 H : Heap} {locs : List Loc} (hD : va_D A w) (hA : ∀ q, H0.size ≤ q → A q) (hS : va_S A H0 H locs) : ∀ q, va_A w H.size q → A q := by
  intro q hq
  rcases hq with ⟨k, e, hk⟩ | hq
  · exact hD.2 k _ hk
  · exact hA q (Nat.le_trans hS.1 hq)
/-- the contract out of the walk -/
theorem o_Cn_of {E : (Nat → Prop) → State → Heap → Prop} {l : Launch} {D : va_G} {cl : List vw_C} {tys : List (ClassId × FieldType)} {y : MethodName} {bc : ByteArray} {nL : Nat} {ret : Option FieldType} {rm : Room} {av : List Value} {w0 w1 : va_W} {r : Option Value}
    (hy : plainName y.cls = true) (hlen : (lg_sl av).length ≤ nL)
    (body : ∀ (p : Program) (e : Env) (s : State) (m : MethodId) (below : List Frame) (meth : Method) (c : Code) (A : Nat → Prop) (ls : Array Slot), o_Cx E p s m av.toArray meth c D cl tys y.cls bc ret nL (Cond.code y bc nL ret) A → va_D A w0 → va_P D cl w0 s.heap → va_S A s.heap s.heap [] → lv_has ls nL (lv_args 0 av) →
      W p l e rm s m av.toArray below meth c s.heap [] 0 0 (MQ below (o_Qx D cl r w1 A) av.toArray s 0 0 A) (F0 m 0 ls [])) : o_Cn E l D cl tys y (Cond.code y bc nL ret) rm av w0 w1 r := by
  intro sz
  refine Met.ofW (cc := bc) (maxL := nL) (ret := ret) hy rfl ?_
  intro p e s m args below meth c s₁ B hml hv
  obtain ⟨rfl, hsz, hP, hK, hD0, hE⟩ := hv
  have hts := atoms_spec (ws := Cond.code y bc nL ret :: o_WS) B.pre
  have hown : s.vm.findClass y.cls = some m.cls := findClass_of_methodNamed B.named
  subst hsz
  have hD := hD0.self (sz := s.heap.size)
  have hl := lv_entry av (n := nL) hlen
  rw [lg_entry_eq]
  exact body p e s m below meth c (va_A w0 s.heap.size) _ ⟨B.exec, B.bytes, B.returns, B.notSynchronized, hml, hown, fun w hw => hts w (List.mem_cons_of_mem _ hw), hK, fun q h => Or.inr h, hE⟩ hD hP va_S.rf hl
theorem o_gV {c : Cond} {own C : String} {idx : Nat} {y : MethodName} {d : Cond} (h1 : Cond.methodLink own idx y ∈ o_WS) (h2 : Cond.instanceMethod y ∈ o_WS) (h3 : Cond.selects C y y ∈ o_WS) (h4 : Cond.initialized C ∈ o_WS) (h5 : d ∈ o_WS) : GoodIn o_WS (wsV own idx C y (d :: o_WS)) := by
  have g : ∀ w ∈ o_WS, w ∈ o_WS ∧ ((w.onTables && w.keeps) = true ∨ ∃ ty, w = .arrayClass ty) := fun w h => ⟨h, good_of_word (List.mem_filter.mp h).2⟩
  intro w hw
  rcases List.mem_append.mp hw with hw | hw
  · rcases List.mem_cons.mp hw with rfl | hw
    · exact g _ h1
    rcases List.mem_cons.mp hw with rfl | hw
    · exact g _ h2
    rcases List.mem_cons.mp hw with rfl | hw
    · exact g _ h3
    rcases List.mem_cons.mp hw with rfl | hw
    · exact g _ h4
    cases hw
  · rcases List.mem_cons.mp hw with rfl | hw
    · exact g _ h5
    · exact g _ hw
theorem o_gD {d : Cond} (h5 : d ∈ o_WS) : GoodIn o_WS (d :: o_WS) := by
  intro w hw
  rcases List.mem_cons.mp hw with rfl | hw
  · exact ⟨h5, good_of_word (List.mem_filter.mp h5).2⟩
  · exact ⟨hw, good_of_word (List.mem_filter.mp hw).2⟩
section OCN
variable {E : (Nat → Prop) → State → Heap → Prop} {p : Program} {l : Launch} {e : Env} {R : Room} {s : State} {m : MethodId} {args : Array Value} {below : List Frame} {meth : Method} {c : Code} {H : Heap} {locs : List Loc} {cells slots : Nat} {Q : State → Prop}
variable {pc : Nat} {ls : Array Slot} {rest st0 st1 : List Value} {a : Array Value} {A0 A1 : Nat → Prop} {H0 : Heap} {free : Addr → Prop}
variable {D : va_G} {cl : List vw_C} {tys : List (ClassId × FieldType)} {own : String} {bc bytes : ByteArray} {ret ret' : Option FieldType} {nL maxL n : Nat} {cc : Cond} {A : Nat → Prop} {y : MethodName} {rm : Room} {w0 w1 : va_W} {r : Option Value} {index : Nat}
theorem o_call (hr : va_Run p l e R s m args below meth c H locs cells slots 0 0 (F0 m pc ls st0) rest (o_Qx D cl r w1 A1 a) free) (hS : va_S A0 H0 H locs) (hA : ∀ q, q < H.size → A1 q → A0 q) (hf : ∀ q, free q → A0 q) (hst : r.toList ++ rest = st1)
    (kk : ∀ (H1 : Heap) (locs1 : List Loc), va_P D cl w1 H1 → va_S A0 H0 H1 locs1 → W p l e R s m args below meth c H1 locs1 cells slots Q (F0 m (pc + 3) ls st1)) : W p l e R s m args below meth c H locs cells slots Q (F0 m pc ls st0) := by
  subst hst
  intro T hT X
  obtain ⟨v, st₀, t, T', L, h0, X', hL, e1, e2, ⟨hv, hp, hz, hk⟩, st⟩ := hr T hT X
  cases hv
  rw [h0] at hz hk
  obtain ⟨t2, a1, b1⟩ := kk T'.heap (locs ++ L) (by rw [e1]; exact hp)
    ⟨Nat.le_trans hS.1 (by rw [e1]; exact hz), fun q h1 h2 => by rw [e1, hk q (Nat.lt_of_lt_of_le h1 hS.1) (fun z => h2 (hA q (Nat.lt_of_lt_of_le h1 hS.1) z))]; exact hS.2.1 q h1 h2, fun q hq => by
      rcases List.mem_append.mp hq with h | h
      · exact hS.2.2 q h
      · exact hf _ (hL q h)⟩ T' rfl X'
  exact ⟨t2, st t2 a1, b1⟩
theorem o_blind (hE : o_Ek E) {av : List Value} {w0 : va_W} {sz : Nat} : FrameBlind (o_Pc E D cl tys av w0 sz) := by
  intro a U g mk q
  obtain ⟨q0, q1, qP, qK, qD, qE⟩ := q
  exact ⟨q0, q1, qP, va_K.moved (u := U) (U := U.calling g mk a) (Vm.Alike.refl U.vm) qK, qD, hE _ _ U (U.calling g mk a) U.heap U.heap (State.WarmedH.refl U) (fun _ h => h) (fun _ _ _ => rfl) qE⟩
theorem o_pre (hE : o_Ek E) (C : o_Cx E p s m args meth c D cl tys own bc ret nL cc A) {av : List Value} (hP : va_P D cl w0 H) (hD : va_D A w0) (hS : va_S A s.heap H locs) : ∀ U : State, U.heap = H → s.WarmedH U.vm → o_Pc E D cl tys av w0 H.size av.toArray U := by
  obtain ⟨hx, hb, hr, hlk, hml, hown, hts, hK, hA, he⟩ := C
  intro U hU hW
  refine ⟨rfl, by rw [hU], by rw [hU]; exact hP, va_K.moved hW.alike hK, hD.weaken (fun _ _ _ _ => trivial), ?_⟩
  exact hE A (va_A w0 H.size) s U s.heap U.heap hW (o_sub hD hA hS) (fun q h1 h2 => by rw [hU]; exact hS.2.1 q h1 h2) he
/-- invokevirtual of a method that isn't a nest mate's private one -/
theorem o_V (hE : o_Ek E) (C : o_Cx E p s m args meth c D cl tys own bc ret nL cc A) {As : List Value} {b q0 ci : Nat} {fs : List Value} {K : String × u_T × Nat} (hM : o_Cn E l D cl tys y (Cond.code y bytes maxL ret') rm (.ref b :: As) w0 w1 r)
    (hP : va_P D cl w0 H) (hD : va_D A w0) (hS : va_S A s.heap H locs) (hl : ls.size = nL) (hc : cl[ci]? = some K) (he : w0[q0]? = some (b, .inr (ci, fs)))
    (h1 : Cond.methodLink own index y ∈ o_WS) (h2 : Cond.instanceMethod y ∈ o_WS) (h3 : Cond.selects K.1 y y ∈ o_WS) (h4 : Cond.initialized K.1 ∈ o_WS) (h5 : Cond.code y bytes maxL ret' ∈ o_WS)
    (hd : y.cls = K.1 ∧ y.cls ≠ "java/lang/invoke/MethodHandle" ∧ y.cls ≠ "java/lang/invoke/VarHandle" ∧ (parseMethodDescriptor y.desc).map (fun d => d.parameters.length) = some As.length)
    (hrc : rm.cells = 0) (hrs : rm.slots = 0) (hR : rm.frames + 1 ≤ R.frames ∧ 8 + (maxL + 11) + rm.locals ≤ R.locals) (hst0 : st0 = As.reverse ++ .ref b :: rest) (hw : (rest.map fun v => v.category).sum ≤ 8) (hf : cells ≤ R.cells ∧ slots ≤ R.slots) (hst : r.toList ++ rest = st1)
    (hdg : decode bc pc = .ok (.invokevirtual index, 3))
    (kk : ∀ (H1 : Heap) (locs1 : List Loc), va_P D cl w1 H1 → va_S A s.heap H1 locs1 → W p l e R s m args below meth c H1 locs1 cells slots Q (F0 m (pc + 3) ls st1)) : W p l e R s m args below meth c H locs cells slots Q (F0 m pc ls st0) := by
  have C0 := C
  obtain ⟨hx, hb, hr, hlk, hml, hown, hts, hK, hA, he2⟩ := C
  refine o_call (va_runV (As := As) (rest := rest) (g := F0 m pc ls st0) ⟨hx, hb, hml, hown, hts⟩ (hM H.size) (cwV As.length hts (o_gV (c := cc) h1 h2 h3 h4 h5) rfl hrc hrs hd hR) ⟨o_blind hE, va_recv hK hP hc he, o_pre hE C0 (av := .ref b :: As) hP hD hS⟩ rfl rfl hl hst0 (lv_room hw) hdg ⟨by omega, by omega⟩) hS (fun q _ h => o_sub hD hA hS q h) (o_sub hD hA hS) hst kk
/-- invokestatic of a method of our own class -/
theorem o_S (hE : o_Ek E) (C : o_Cx E p s m args meth c D cl tys own bc ret nL cc A) {As : List Value} (hM : o_Cn E l D cl tys y (Cond.code y bytes maxL ret') rm As w0 w1 r)
    (hP : va_P D cl w0 H) (hD : va_D A w0) (hS : va_S A s.heap H locs) (hl : ls.size = nL)
    (h1 : Cond.methodLink own index y ∈ o_WS) (h2 : Cond.static y ∈ o_WS) (h4 : Cond.initialized y.cls ∈ o_WS) (h5 : Cond.code y bytes maxL ret' ∈ o_WS)
    (hd : y.cls ≠ "java/lang/invoke/MethodHandle" ∧ y.cls ≠ "java/lang/invoke/VarHandle" ∧ (parseMethodDescriptor y.desc).map (fun d => d.parameters.length) = some As.length)
    (hrc : rm.cells = 0) (hrs : rm.slots = 0) (hR : rm.frames + 1 ≤ R.frames ∧ 8 + (maxL + 11) + rm.locals ≤ R.locals) (hst0 : st0 = As.reverse ++ rest) (hw : (rest.map fun v => v.category).sum ≤ 8) (hf : cells ≤ R.cells ∧ slots ≤ R.slots) (hst : r.toList ++ rest = st1)
    (hdg : decode bc pc = .ok (.invokestatic index, 3))
    (kk : ∀ (H1 : Heap) (locs1 : List Loc), va_P D cl w1 H1 → va_S A s.heap H1 locs1 → W p l e R s m args below meth c H1 locs1 cells slots Q (F0 m (pc + 3) ls st1)) : W p l e R s m args below meth c H locs cells slots Q (F0 m pc ls st0) := by
  have C0 := C
  obtain ⟨hx, hb, hr, hlk, hml, hown, hts, hK, hA, he2⟩ := C
  refine o_call (va_runS (As := As) (rest := rest) (g := F0 m pc ls st0) ⟨hx, hb, hml, hown, hts⟩ (hM H.size) ⟨callB_of As.length hts (o_gD h5) rfl hrc hrs (hts _ h4) (hts _ h1) hd hR, hts _ h2⟩ ⟨o_blind hE, o_pre hE C0 (av := As) hP hD hS⟩ rfl rfl hl hst0 (lv_room hw) hdg ⟨by omega, by omega⟩) hS (fun q _ h => o_sub hD hA hS q h) (o_sub hD hA hS) hst kk
/-- invokestatic of a nest mate's private method -/
theorem o_SN (hE : o_Ek E) (C : o_Cx E p s m args meth c D cl tys own bc ret nL cc A) {As : List Value} {host : String} (hM : o_Cn E l D cl tys y (Cond.code y bytes maxL ret') rm As w0 w1 r)
    (hP : va_P D cl w0 H) (hD : va_D A w0) (hS : va_S A s.heap H locs) (hl : ls.size = nL)
    (h1 : va_Nw (Cond.methodLinkNest own index y host) s) (h2 : Cond.static y ∈ o_WS) (h4 : Cond.initialized y.cls ∈ o_WS) (h5 : Cond.code y bytes maxL ret' ∈ o_WS)
    (hd : y.cls ≠ "java/lang/invoke/MethodHandle" ∧ y.cls ≠ "java/lang/invoke/VarHandle" ∧ (parseMethodDescriptor y.desc).map (fun d => d.parameters.length) = some As.length)
    (hrc : rm.cells = 0) (hrs : rm.slots = 0) (hR : rm.frames + 1 ≤ R.frames ∧ 8 + (maxL + 11) + rm.locals ≤ R.locals) (hst0 : st0 = As.reverse ++ rest) (hw : (rest.map fun v => v.category).sum ≤ 8) (hf : cells ≤ R.cells ∧ slots ≤ R.slots) (hst : r.toList ++ rest = st1)
    (hdg : decode bc pc = .ok (.invokestatic index, 3))
    (kk : ∀ (H1 : Heap) (locs1 : List Loc), va_P D cl w1 H1 → va_S A s.heap H1 locs1 → W p l e R s m args below meth c H1 locs1 cells slots Q (F0 m (pc + 3) ls st1)) : W p l e R s m args below meth c H locs cells slots Q (F0 m pc ls st0) := by
  have C0 := C
  obtain ⟨hx, hb, hr, hlk, hml, hown, hts, hK, hA, he2⟩ := C
  refine o_call (va_runSN (As := As) (rest := rest) (g := F0 m pc ls st0) ⟨hx, hb, hml, hown, hts⟩ (hM H.size) ⟨va_cnB As.length hts (o_gD h5) rfl hrc hrs h1 (hts _ h4) hd hR, hts _ h2, trivial⟩ ⟨o_blind hE, o_pre hE C0 (av := As) hP hD hS⟩ rfl rfl hl hst0 (lv_room hw) hdg ⟨by omega, by omega⟩) hS (fun q _ h => o_sub hD hA hS q h) (o_sub hD hA hS) hst kk
/-- the end of a method, by its kind -/
theorem o_ri (C : o_Cx E p s m args meth c D cl tys own bc (some .int) nL cc A) {v : Int32} (hP : va_P D cl w1 H) (hS : va_S A s.heap H locs) (hdg : decode bc pc = .ok (.ireturn, 1)) : W p l e R s m args below meth c H locs cells slots (MQ below (o_Qx D cl (some (.int v)) w1 A) args s cells slots A) (F0 m pc ls [.int v]) := by
  obtain ⟨hx, hb, hr, hlk, hml, hown, hts, hK, hA, he2⟩ := C
  exact W.iret hx hb hr (fun t ht _ => ⟨rfl, by rw [ht]; exact hP, hS.F ht⟩) hS.2.2 hdg
theorem o_rz (C : o_Cx E p s m args meth c D cl tys own bc (some .boolean) nL cc A) {v : Int32} (hn : narrow .boolean (.int v) = .int v) (hP : va_P D cl w1 H) (hS : va_S A s.heap H locs) (hdg : decode bc pc = .ok (.ireturn, 1)) : W p l e R s m args below meth c H locs cells slots (MQ below (o_Qx D cl (some (.int v)) w1 A) args s cells slots A) (F0 m pc ls [.int v]) := by
  obtain ⟨hx, hb, hr, hlk, hml, hown, hts, hK, hA, he2⟩ := C
  exact W.zret hx hb hr hn (fun t ht _ => ⟨rfl, by rw [ht]; exact hP, hS.F ht⟩) hS.2.2 hdg
theorem o_rv (C : o_Cx E p s m args meth c D cl tys own bc none nL cc A) (hP : va_P D cl w1 H) (hS : va_S A s.heap H locs) (hdg : decode bc pc = .ok (.return_, 1)) : W p l e R s m args below meth c H locs cells slots (MQ below (o_Qx D cl none w1 A) args s cells slots A) (F0 m pc ls []) := by
  obtain ⟨hx, hb, hr, hlk, hml, hown, hts, hK, hA, he2⟩ := C
  exact W.vret hx hb hr (fun t ht _ => ⟨rfl, by rw [ht]; exact hP, hS.F ht⟩) hS.2.2 hdg
theorem o_rl (C : o_Cx E p s m args meth c D cl tys own bc (some .long) nL cc A) {v : Int64} (hP : va_P D cl w1 H) (hS : va_S A s.heap H locs) (hdg : decode bc pc = .ok (.lreturn, 1)) : W p l e R s m args below meth c H locs cells slots (MQ below (o_Qx D cl (some (.long v)) w1 A) args s cells slots A) (F0 m pc ls [.long v]) := by
  obtain ⟨hx, hb, hr, hlk, hml, hown, hts, hK, hA, he2⟩ := C
  exact W.lret hx hb hr (fun t ht _ => ⟨rfl, by rw [ht]; exact hP, hS.F ht⟩) hS.2.2 hdg
/-- fields and arrays of the world, by the context -/
theorem o_get (C : o_Cx E p s m args meth c D cl tys own bc ret nL cc A) {ref K : String} {T : u_T} {N ci index b : Nat} (hin : ∀ w ∈ u_ws K T N, w ∈ o_WS) (hP : va_P D cl w0 H) (q0 : Nat) {fs : List Value} (he : w0[q0]? = some (b, .inr (ci, fs))) (hc : cl[ci]? = some (K, T, N)) (k : Nat) (hk : k < N) (hlink : Cond.fieldLink own index ref (T k).2.1 (T k).2.2.1 ∈ o_WS) (hsame : (T k).1 = ref) {v : Value} (hv : fs[k]? = some v) (hdg : decode bc pc = .ok (.getfield index, 3))
    (kk : W p l e R s m args below meth c H locs cells slots Q (F0 m (pc + 3) ls (v :: rest))) : W p l e R s m args below meth c H locs cells slots Q (F0 m pc ls (.ref b :: rest)) := by
  obtain ⟨hx, hb, hr, hlk, hml, hown, hts, hK, hA, he2⟩ := C
  subst hsame
  exact va_get hx hb hts hin hown hK hP q0 he hc k hk (hts _ hlink) (fun _ h => h) hv hdg kk
theorem o_put (C : o_Cx E p s m args meth c D cl tys own bc ret nL cc A) {ref K : String} {T : u_T} {N ci index b : Nat} (hin : ∀ w ∈ u_ws K T N, w ∈ o_WS) (ty0 : Nat → FieldType) (hty : ∀ k, k < N → parseFieldDescriptor (T k).2.2.1 = some (ty0 k)) (hnm : ∀ a, a < N → ∀ b, b < N → a ≠ b → (T a).2.1 ≠ (T b).2.1) (hP : va_P D cl w0 H) (hD : va_D A w0) (hS : va_S A s.heap H locs) (q0 : Nat) {fs : List Value} (he : w0[q0]? = some (b, .inr (ci, fs))) (hc : cl[ci]? = some (K, T, N)) (k : Nat) (hk : k < N) (hlink : Cond.fieldLink own index ref (T k).2.1 (T k).2.2.1 ∈ o_WS) (hsame : (T k).1 = ref) (hfin : (T k).2.2.2 = false) {ty : FieldType} {v : Value} (hd : parseFieldDescriptor (T k).2.2.1 = some ty) (hn : narrow ty v = v) (hfit : fits ty v = true) (hl : k < fs.length) (hw : w0.set q0 (b, .inr (ci, fs.set k v)) = w1) (hdg : decode bc pc = .ok (.putfield index, 3))
    (kk : ∀ (H1 : Heap) (locs1 : List Loc), va_P D cl w1 H1 → va_S A s.heap H1 locs1 → W p l e R s m args below meth c H1 locs1 cells slots Q (F0 m (pc + 3) ls rest)) : W p l e R s m args below meth c H locs cells slots Q (F0 m pc ls (v :: .ref b :: rest)) := by
  obtain ⟨hx, hb, hr, hlk, hml, hown, hts, hK, hA, he2⟩ := C
  subst hsame
  subst hw
  exact va_put hx hb hts hin ty0 hty hnm hown hK hP hD hS q0 he hc k hk (hts _ hlink) (fun _ h => h) hfin hd hn hfit hl hdg (fun H1 locs1 h1 _ h3 => kk H1 locs1 h1 h3)
theorem o_iald (C : o_Cx E p s m args meth c D cl tys own bc ret nL cc A) (hP : va_P D cl w0 H) (q0 t0 : Nat) {b : Nat} {cA : ClassId} {f : Nat → Int32} {N : Nat} (ha : w0[q0]? = some (b, .inl (cA, N, .inl f))) (ht : tys[t0]? = some (cA, .int)) {i : Int32} (hin : o_in i N = true) (hdg : decode bc pc = .ok (.iaload, 1))
    (kk : W p l e R s m args below meth c H locs cells slots Q (F0 m (pc + 1) ls (.int (f i.toNatClampNeg) :: rest))) : W p l e R s m args below meth c H locs cells slots Q (F0 m pc ls (.int i :: .ref b :: rest)) := by
  obtain ⟨hx, hb, hr, hlk, hml, hown, hts, hK, hA, he2⟩ := C
  exact va_iald hx hb hK hP q0 t0 ha ht (o_in_in hin) hdg kk
theorem o_zald (C : o_Cx E p s m args meth c D cl tys own bc ret nL cc A) (hP : va_P D cl w0 H) (q0 t0 : Nat) {b : Nat} {cA : ClassId} {f : Nat → Int32} {N : Nat} (ha : w0[q0]? = some (b, .inl (cA, N, .inl f))) (ht : tys[t0]? = some (cA, .boolean)) {i : Int32} (hin : o_in i N = true) (hdg : decode bc pc = .ok (.baload, 1))
    (kk : W p l e R s m args below meth c H locs cells slots Q (F0 m (pc + 1) ls (.int (f i.toNatClampNeg) :: rest))) : W p l e R s m args below meth c H locs cells slots Q (F0 m pc ls (.int i :: .ref b :: rest)) := by
  obtain ⟨hx, hb, hr, hlk, hml, hown, hts, hK, hA, he2⟩ := C
  exact va_zald hx hb hK hP q0 t0 ha ht (o_in_in hin) hdg kk
theorem o_lald (C : o_Cx E p s m args meth c D cl tys own bc ret nL cc A) (hP : va_P D cl w0 H) (q0 t0 : Nat) {b : Nat} {cA : ClassId} {f : Nat → Int64} {N : Nat} (ha : w0[q0]? = some (b, .inl (cA, N, .inr (.inl f)))) (ht : tys[t0]? = some (cA, .long)) {i : Int32} (hin : o_in i N = true) (hdg : decode bc pc = .ok (.laload, 1))
    (kk : W p l e R s m args below meth c H locs cells slots Q (F0 m (pc + 1) ls (.long (f i.toNatClampNeg) :: rest))) : W p l e R s m args below meth c H locs cells slots Q (F0 m pc ls (.int i :: .ref b :: rest)) := by
  obtain ⟨hx, hb, hr, hlk, hml, hown, hts, hK, hA, he2⟩ := C
  exact va_lald hx hb hK hP q0 t0 ha ht (o_in_in hin) hdg kk
theorem o_iast (C : o_Cx E p s m args meth c D cl tys own bc ret nL cc A) (hP : va_P D cl w0 H) (hD : va_D A w0) (hS : va_S A s.heap H locs) (q0 t0 : Nat) {b : Nat} {cA : ClassId} {f : Nat → Int32} {N : Nat} (ha : w0[q0]? = some (b, .inl (cA, N, .inl f))) (ht : tys[t0]? = some (cA, .int)) {i x : Int32} (hin : o_in i N = true) (hw : w0.set q0 (b, .inl (cA, N, .inl (upd f i.toNatClampNeg x))) = w1) (hdg : decode bc pc = .ok (.iastore, 1))
    (kk : ∀ (H1 : Heap) (locs1 : List Loc), va_P D cl w1 H1 → va_S A s.heap H1 locs1 → W p l e R s m args below meth c H1 locs1 cells slots Q (F0 m (pc + 1) ls rest)) : W p l e R s m args below meth c H locs cells slots Q (F0 m pc ls (.int x :: .int i :: .ref b :: rest)) := by
  obtain ⟨hx, hb, hr, hlk, hml, hown, hts, hK, hA, he2⟩ := C
  subst hw
  exact va_iast hx hb hK hP hD hS q0 t0 ha ht (o_in_in hin) hdg (fun H1 locs1 h1 _ h3 => kk H1 locs1 h1 h3)
theorem o_zast (C : o_Cx E p s m args meth c D cl tys own bc ret nL cc A) (hP : va_P D cl w0 H) (hD : va_D A w0) (hS : va_S A s.heap H locs) (q0 t0 : Nat) {b : Nat} {cA : ClassId} {f : Nat → Int32} {N : Nat} (ha : w0[q0]? = some (b, .inl (cA, N, .inl f))) (ht : tys[t0]? = some (cA, .boolean)) {i x : Int32} (hin : o_in i N = true) (hw : w0.set q0 (b, .inl (cA, N, .inl (upd f i.toNatClampNeg (vp_nar .boolean x)))) = w1) (hdg : decode bc pc = .ok (.bastore, 1))
    (kk : ∀ (H1 : Heap) (locs1 : List Loc), va_P D cl w1 H1 → va_S A s.heap H1 locs1 → W p l e R s m args below meth c H1 locs1 cells slots Q (F0 m (pc + 1) ls rest)) : W p l e R s m args below meth c H locs cells slots Q (F0 m pc ls (.int x :: .int i :: .ref b :: rest)) := by
  obtain ⟨hx, hb, hr, hlk, hml, hown, hts, hK, hA, he2⟩ := C
  subst hw
  exact va_zast hx hb hK hP hD hS q0 t0 ha ht (o_in_in hin) hdg (fun H1 locs1 h1 _ h3 => kk H1 locs1 h1 h3)
theorem o_last (C : o_Cx E p s m args meth c D cl tys own bc ret nL cc A) (hP : va_P D cl w0 H) (hD : va_D A w0) (hS : va_S A s.heap H locs) (q0 t0 : Nat) {b : Nat} {cA : ClassId} {f : Nat → Int64} {N : Nat} (ha : w0[q0]? = some (b, .inl (cA, N, .inr (.inl f)))) (ht : tys[t0]? = some (cA, .long)) {i : Int32} {x : Int64} (hin : o_in i N = true) (hw : w0.set q0 (b, .inl (cA, N, .inr (.inl (vp_updL f i.toNatClampNeg x)))) = w1) (hdg : decode bc pc = .ok (.lastore, 1))
    (kk : ∀ (H1 : Heap) (locs1 : List Loc), va_P D cl w1 H1 → va_S A s.heap H1 locs1 → W p l e R s m args below meth c H1 locs1 cells slots Q (F0 m (pc + 1) ls rest)) : W p l e R s m args below meth c H locs cells slots Q (F0 m pc ls (.long x :: .int i :: .ref b :: rest)) := by
  obtain ⟨hx, hb, hr, hlk, hml, hown, hts, hK, hA, he2⟩ := C
  subst hw
  exact va_last hx hb hK hP hD hS q0 t0 ha ht (o_in_in hin) hdg (fun H1 locs1 h1 _ h3 => kk H1 locs1 h1 h3)
theorem o_cpi (C : o_Cx E p s m args meth c D cl tys own bc ret nL cc A) (hP : va_P D cl w0 H) (hD : va_D A w0) (hS : va_S A s.heap H locs) (hl : ls.size = nL) (h1 : Cond.methodLink own index arraycopyName ∈ o_WS) (h2 : Cond.native arraycopyName ∈ o_WS) (h3 : Cond.static arraycopyName ∈ o_WS) (h4 : Cond.initialized "java/lang/System" ∈ o_WS)
    (q0 q1 t0 t1 : Nat) {a0 b : Nat} {c0 c1 : ClassId} {n0 n1 : Nat} {f g : Nat → Int32} (ha0 : w0[q0]? = some (a0, .inl (c0, n0, .inl f))) (ha1 : w0[q1]? = some (b, .inl (c1, n1, .inl g))) (ht0 : tys[t0]? = some (c0, .int)) (ht1 : tys[t1]? = some (c1, .int))
    {sp dp n : Int32} (hg : o_cp sp dp n n0 n1 = true) (hw : w0.set q1 (b, .inl (c1, n1, .inl (va_cpy f g sp.toNatClampNeg dp.toNatClampNeg n.toNatClampNeg))) = w1) (hframes : 1 ≤ R.frames) (hlocals : (rest.map fun v => v.category).sum + (nativeFrameWords "java/lang/System" "arraycopy" 5 + 11) ≤ R.locals) (hdg : decode bc pc = .ok (.invokestatic index, 3))
    (kk : ∀ (H1 : Heap) (locs1 : List Loc), va_P D cl w1 H1 → va_S A s.heap H1 locs1 → W p l e R s m args below meth c H1 locs1 cells slots Q (F0 m (pc + 3) ls rest)) : W p l e R s m args below meth c H locs cells slots Q (F0 m pc ls (.int n :: .int dp :: .ref b :: .int sp :: .ref a0 :: rest)) := by
  obtain ⟨hx, hb, hr, hlk, hml, hown, hts, hK, hA, he2⟩ := C
  subst hw
  unfold o_cp at hg
  simp only [Bool.and_eq_true, Bool.not_eq_true', decide_eq_true_eq, decide_eq_false_iff_not] at hg
  obtain ⟨⟨⟨⟨g1, g2⟩, g3⟩, g4⟩, g5⟩ := hg
  exact va_copyi hx hb (hml.trans hl.symm) hown (hts _ h1) (hts _ h2) (hts _ h3) (hts _ h4) hK hP hD hS q0 q1 t0 t1 ha0 ha1 ht0 ht1 rfl g1 g2 g3 g4 g5 (fun _ _ => rfl) hframes hlocals hdg (fun H1 locs1 h1 _ h3 => kk H1 locs1 h1 h3)
/-- invokevirtual on a receiver of a known class -/
theorem o_VR (hE : o_Ek E) (C : o_Cx E p s m args meth c D cl tys own bc ret nL cc A) {As : List Value} {b : Nat} {K : String} (hM : o_Cn E l D cl tys y (Cond.code y bytes maxL ret') rm (.ref b :: As) w0 w1 r)
    (hP : va_P D cl w0 H) (hD : va_D A w0) (hS : va_S A s.heap H locs) (hl : ls.size = nL) (hrv : ∃ cellB : Cell, H[b]? = some cellB ∧ cellB.vm.isStatics = false ∧ s.vm.findClass K = some cellB.cls)
    (h1 : Cond.methodLink own index y ∈ o_WS) (h2 : Cond.instanceMethod y ∈ o_WS) (h3 : Cond.selects K y y ∈ o_WS) (h4 : Cond.initialized K ∈ o_WS) (h5 : Cond.code y bytes maxL ret' ∈ o_WS)
    (hd : y.cls = K ∧ y.cls ≠ "java/lang/invoke/MethodHandle" ∧ y.cls ≠ "java/lang/invoke/VarHandle" ∧ (parseMethodDescriptor y.desc).map (fun d => d.parameters.length) = some As.length)
    (hrc : rm.cells = 0) (hrs : rm.slots = 0) (hR : rm.frames + 1 ≤ R.frames ∧ 8 + (maxL + 11) + rm.locals ≤ R.locals) (hst0 : st0 = As.reverse ++ .ref b :: rest) (hw : (rest.map fun v => v.category).sum ≤ 8) (hf : cells ≤ R.cells ∧ slots ≤ R.slots) (hst : r.toList ++ rest = st1)
    (hdg : decode bc pc = .ok (.invokevirtual index, 3))
    (kk : ∀ (H1 : Heap) (locs1 : List Loc), va_P D cl w1 H1 → va_S A s.heap H1 locs1 → W p l e R s m args below meth c H1 locs1 cells slots Q (F0 m (pc + 3) ls st1)) : W p l e R s m args below meth c H locs cells slots Q (F0 m pc ls st0) := by
  have C0 := C
  obtain ⟨hx, hb, hr, hlk, hml, hown, hts, hK, hA, he2⟩ := C
  refine o_call (va_runV (As := As) (rest := rest) (g := F0 m pc ls st0) ⟨hx, hb, hml, hown, hts⟩ (hM H.size) (cwV As.length hts (o_gV (c := cc) h1 h2 h3 h4 h5) rfl hrc hrs hd hR) ⟨o_blind hE, hrv, o_pre hE C0 (av := .ref b :: As) hP hD hS⟩ rfl rfl hl hst0 (lv_room hw) hdg ⟨by omega, by omega⟩) hS (fun q _ h => o_sub hD hA hS q h) (o_sub hD hA hS) hst kk
theorem o_ra {nmR : String} (C : o_Cx E p s m args meth c D cl tys own bc (some (.object nmR)) nL cc A) {v : Value} (hv : ∃ a, v = .ref a) (hP : va_P D cl w1 H) (hS : va_S A s.heap H locs) (hdg : decode bc pc = .ok (.areturn, 1)) : W p l e R s m args below meth c H locs cells slots (MQ below (o_Qx D cl (some v) w1 A) args s cells slots A) (F0 m pc ls [v]) := by
  obtain ⟨hx, hb, hr, hlk, hml, hown, hts, hK, hA, he2⟩ := C
  exact W.aret hx hb hr (Or.inl ⟨_, rfl⟩) (Or.inr hv) (fun t ht _ => ⟨rfl, by rw [ht]; exact hP, hS.F ht⟩) hS.2.2 hdg
end OCN
theorem o_nz_ne {x : Int64} (h : o_nz x = true) : ¬ x = 0 := by
  unfold o_nz at h
  simpa using h
theorem o_ip {c : Prop} [Decidable c] {A B : Prop} (hc : c) (h : A) : (if c then A else B) := by rw [if_pos hc]; exact h
theorem o_in_ {c : Prop} [Decidable c] {A B : Prop} (hc : ¬ c) (h : B) : (if c then A else B) := by rw [if_neg hc]; exact h
theorem o_sim2 {σ : Type} {f : σ → Option (Nat × σ)} {AH : σ → Prop} {AX : Nat × σ → Prop} (hb : ∀ z q, f z = some q → (q.1 = 0 → AH q.2) → (q.1 ≠ 0 → AX q) → AH z) :
    ∀ n z q, o_lp n f z = some q → AX q → AH z := by
  intro n
  induction n with
  | zero => intro z q h; cases h
  | succ n ih =>
    intro z q h hA
    obtain ⟨a, ha, h⟩ := o_bd_some h
    by_cases h0 : a.1 = 0
    · have h := o_tt h0 h
      exact hb z a ha (fun _ => ih a.2 q h hA) (fun h1 => absurd h0 h1)
    · have h := o_ff h0 h
      cases h
      exact hb z _ ha (fun h1 => absurd h1 h0) (fun _ => hA)
def o_At (p : Program) (l : Launch) (e : Env) (R : Room) (s : State) (m : MethodId) (args : Array Value) (below : List Frame) (meth : Method) (c : Code) (Q : State → Prop) (cl : List vw_C) (D : va_G) (A : Nat → Prop) (nL pc : Nat) (st : List Value) (w : va_W) (lv : List (Nat × Value)) : Prop :=
  ∀ (H : Heap) (locs : List Loc) (ls : Array Slot), va_P D cl w H → va_S A s.heap H locs → lv_has ls nL lv → W p l e R s m args below meth c H locs 0 0 Q (F0 m pc ls st)
theorem o_nar0 : narrow .boolean (.int (0 : Int32)) = .int (0 : Int32) := rfl
theorem o_nar1 : narrow .boolean (.int (1 : Int32)) = .int (1 : Int32) := rfl
theorem o_ne_i {x k : Int32} {n : Int} (hk : k.toInt = n) (h : ¬ x = k) : x.toInt ≠ n := fun e => h (Int32.toInt_inj.mp (e.trans hk.symm))
