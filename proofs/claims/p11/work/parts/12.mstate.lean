abbrev SNI : Type := ((Int32 × Int32) × (Int32 × (Nat → Int32)))
abbrev NI_err (s : SNI) : Int32 := s.1.1
abbrev NI_fed (s : SNI) : Int32 := s.1.2
abbrev NI_wrong (s : SNI) : Int32 := s.2.1
abbrev NI_octets (s : SNI) : (Nat → Int32) := s.2.2
abbrev NI_mk (z0 : Int32) (z1 : Int32) (z2 : Int32) (z3 : (Nat → Int32)) : SNI := ((z0, z1), (z2, z3))
abbrev SNP : Type := (((((Nat → Int32) × (Nat → Int32)) × ((Nat → Int32) × (Nat → Int32))) × (((Nat → Int32) × (Nat → Int32)) × ((Nat → Int32) × (Nat → Int32)))) × ((((Nat → Int32) × (Nat → Int32)) × (Int32 × Int32)) × ((Int32 × Int32) × (Int32 × Int32))))
abbrev NP_nodeKind (s : SNP) : (Nat → Int32) := s.1.1.1.1
abbrev NP_nodeA (s : SNP) : (Nat → Int32) := s.1.1.1.2
abbrev NP_nodeB (s : SNP) : (Nat → Int32) := s.1.1.2.1
abbrev NP_nodeC (s : SNP) : (Nat → Int32) := s.1.1.2.2
abbrev NP_nodeNext (s : SNP) : (Nat → Int32) := s.1.2.1.1
abbrev NP_low (s : SNP) : (Nat → Int32) := s.1.2.1.2
abbrev NP_high (s : SNP) : (Nat → Int32) := s.1.2.2.1
abbrev NP_setFrom (s : SNP) : (Nat → Int32) := s.1.2.2.2
abbrev NP_setTo (s : SNP) : (Nat → Int32) := s.2.1.1.1
abbrev NP_setNot (s : SNP) : (Nat → Int32) := s.2.1.1.2
abbrev NP_nodes (s : SNP) : Int32 := s.2.1.2.1
abbrev NP_sets (s : SNP) : Int32 := s.2.1.2.2
abbrev NP_ranges (s : SNP) : Int32 := s.2.2.1.1
abbrev NP_pat (s : SNP) : Int32 := s.2.2.1.2
abbrev NP_patEnd (s : SNP) : Int32 := s.2.2.2.1
abbrev NP_broken (s : SNP) : Int32 := s.2.2.2.2
abbrev NP_mk (z0 : (Nat → Int32)) (z1 : (Nat → Int32)) (z2 : (Nat → Int32)) (z3 : (Nat → Int32)) (z4 : (Nat → Int32)) (z5 : (Nat → Int32)) (z6 : (Nat → Int32)) (z7 : (Nat → Int32)) (z8 : (Nat → Int32)) (z9 : (Nat → Int32)) (z10 : Int32) (z11 : Int32) (z12 : Int32) (z13 : Int32) (z14 : Int32) (z15 : Int32) : SNP := ((((z0, z1), (z2, z3)), ((z4, z5), (z6, z7))), (((z8, z9), (z10, z11)), ((z12, z13), (z14, z15))))
abbrev SNO : Type := (((Nat → Int32) × (Nat → Int32)) × ((Nat → Int32) × Int32))
abbrev NO_op (s : SNO) : (Nat → Int32) := s.1.1
abbrev NO_opA (s : SNO) : (Nat → Int32) := s.1.2
abbrev NO_opB (s : SNO) : (Nat → Int32) := s.2.1
abbrev NO_steps (s : SNO) : Int32 := s.2.2
abbrev NO_mk (z0 : (Nat → Int32)) (z1 : (Nat → Int32)) (z2 : (Nat → Int32)) (z3 : Int32) : SNO := ((z0, z1), (z2, z3))
abbrev SNX : Type := (((Nat → Int32) × ((Nat → Int32) × (Nat → Int32))) × ((Nat → Int32) × (Int32 × Int32)))
abbrev NX_mark (s : SNX) : (Nat → Int32) := s.1.1
abbrev NX_now (s : SNX) : (Nat → Int32) := s.1.2.1
abbrev NX_then (s : SNX) : (Nat → Int32) := s.1.2.2
abbrev NX_todo (s : SNX) : (Nat → Int32) := s.2.1
abbrev NX_round (s : SNX) : Int32 := s.2.2.1
abbrev NX_many1 (s : SNX) : Int32 := s.2.2.2
abbrev NX_mk (z0 : (Nat → Int32)) (z1 : (Nat → Int32)) (z2 : (Nat → Int32)) (z3 : (Nat → Int32)) (z4 : Int32) (z5 : Int32) : SNX := ((z0, (z1, z2)), (z3, (z4, z5)))
abbrev SNF : Type := ((Int32 × Int32) × (Int32 × Int32))
abbrev NF_checked (s : SNF) : Int32 := s.1.1
abbrev NF_faultKind (s : SNF) : Int32 := s.1.2
abbrev NF_faultValue (s : SNF) : Int32 := s.2.1
abbrev NF_latestFault (s : SNF) : Int32 := s.2.2
abbrev NF_mk (z0 : Int32) (z1 : Int32) (z2 : Int32) (z3 : Int32) : SNF := ((z0, z1), (z2, z3))
abbrev SNA : Type := ((Int32 × ((Nat → Int32) × (Nat → Int32))) × ((Nat → Int32) × ((Nat → Int32) × (Nat → Int32))))
abbrev NA_anchors (s : SNA) : Int32 := s.1.1
abbrev NA_key (s : SNA) : (Nat → Int32) := s.1.2.1
abbrev NA_target (s : SNA) : (Nat → Int32) := s.1.2.2
abbrev NA_anchorValue (s : SNA) : (Nat → Int32) := s.2.1
abbrev NA_anchorSchema (s : SNA) : (Nat → Int32) := s.2.2.1
abbrev NA_isSchema (s : SNA) : (Nat → Int32) := s.2.2.2
abbrev NA_mk (z0 : Int32) (z1 : (Nat → Int32)) (z2 : (Nat → Int32)) (z3 : (Nat → Int32)) (z4 : (Nat → Int32)) (z5 : (Nat → Int32)) : SNA := ((z0, (z1, z2)), (z3, (z4, z5)))
abbrev SNH : Type := (((Nat → Int32) × ((Nat → Int32) × (Nat → Int32))) × (Int32 × ((Nat → Int32) × (Nat → Int32))))
abbrev NH_path (s : SNH) : (Nat → Int32) := s.1.1
abbrev NH_route (s : SNH) : (Nat → Int32) := s.1.2.1
abbrev NH_seen1 (s : SNH) : (Nat → Int32) := s.1.2.2
abbrev NH_pathSize (s : SNH) : Int32 := s.2.1
abbrev NH_octetRow (s : SNH) : (Nat → Int32) := s.2.2.1
abbrev NH_partRow (s : SNH) : (Nat → Int32) := s.2.2.2
abbrev NH_mk (z0 : (Nat → Int32)) (z1 : (Nat → Int32)) (z2 : (Nat → Int32)) (z3 : Int32) (z4 : (Nat → Int32)) (z5 : (Nat → Int32)) : SNH := ((z0, (z1, z2)), (z3, (z4, z5)))
abbrev SNQ : Type := ((Nat → Int32) × ((Nat → Int32) × Int32))
abbrev NQ_pairValue (s : SNQ) : (Nat → Int32) := s.1
abbrev NQ_pairKey (s : SNQ) : (Nat → Int32) := s.2.1
abbrev NQ_pairs (s : SNQ) : Int32 := s.2.2
abbrev NQ_mk (z0 : (Nat → Int32)) (z1 : (Nat → Int32)) (z2 : Int32) : SNQ := (z0, (z1, z2))
abbrev SNJ : Type := ((Int32 × Int32) × (Int32 × (Int32 × Int64)))
abbrev NJ_judged (s : SNJ) : Int32 := s.1.1
abbrev NJ_deepest (s : SNJ) : Int32 := s.1.2
abbrev NJ_depth (s : SNJ) : Int32 := s.2.1
abbrev NJ_over (s : SNJ) : Int32 := s.2.2.1
abbrev NJ_seen (s : SNJ) : Int64 := s.2.2.2
abbrev NJ_mk (z0 : Int32) (z1 : Int32) (z2 : Int32) (z3 : Int32) (z4 : Int64) : SNJ := ((z0, z1), (z2, (z3, z4)))
abbrev SMT : Type := (((((Nat → Int32) × (Nat → Int32)) × ((Nat → Int32) × ((Nat → Int32) × (Nat → Int32)))) × (((Nat → Int32) × (Nat → Int32)) × ((Nat → Int32) × ((Nat → Int32) × (Nat → Int32))))) × ((((Nat → Int32) × (Nat → Int32)) × ((Nat → Int32) × (Int32 × Int32))) × ((Int32 × Int32) × (Int32 × (Int32 × (Nat → Int32))))))
abbrev MT_text (s : SMT) : (Nat → Int32) := s.1.1.1.1
abbrev MT_kind (s : SMT) : (Nat → Int32) := s.1.1.1.2
abbrev MT_place (s : SMT) : (Nat → Int32) := s.1.1.2.1
abbrev MT_many (s : SMT) : (Nat → Int32) := s.1.1.2.2.1
abbrev MT_parent (s : SMT) : (Nat → Int32) := s.1.1.2.2.2
abbrev MT_power (s : SMT) : (Nat → Int32) := s.1.2.1.1
abbrev MT_first (s : SMT) : (Nat → Int32) := s.1.2.1.2
abbrev MT_next (s : SMT) : (Nat → Int32) := s.1.2.2.1
abbrev MT_name (s : SMT) : (Nat → Int32) := s.1.2.2.2.1
abbrev MT_from (s : SMT) : (Nat → Int32) := s.1.2.2.2.2
abbrev MT_characters (s : SMT) : (Nat → Int32) := s.2.1.1.1
abbrev MT_digits (s : SMT) : (Nat → Int32) := s.2.1.1.2
abbrev MT_minus (s : SMT) : (Nat → Int32) := s.2.1.2.1
abbrev MT_values (s : SMT) : Int32 := s.2.1.2.2.1
abbrev MT_letters (s : SMT) : Int32 := s.2.1.2.2.2
abbrev MT_at (s : SMT) : Int32 := s.2.2.1.1
abbrev MT_wrong (s : SMT) : Int32 := s.2.2.1.2
abbrev MT_used (s : SMT) : Int32 := s.2.2.2.1
abbrev MT_written (s : SMT) : Int32 := s.2.2.2.2.1
abbrev MT_left (s : SMT) : (Nat → Int32) := s.2.2.2.2.2
abbrev MT_mk (z0 : (Nat → Int32)) (z1 : (Nat → Int32)) (z2 : (Nat → Int32)) (z3 : (Nat → Int32)) (z4 : (Nat → Int32)) (z5 : (Nat → Int32)) (z6 : (Nat → Int32)) (z7 : (Nat → Int32)) (z8 : (Nat → Int32)) (z9 : (Nat → Int32)) (z10 : (Nat → Int32)) (z11 : (Nat → Int32)) (z12 : (Nat → Int32)) (z13 : Int32) (z14 : Int32) (z15 : Int32) (z16 : Int32) (z17 : Int32) (z18 : Int32) (z19 : (Nat → Int32)) : SMT := ((((z0, z1), (z2, (z3, z4))), ((z5, z6), (z7, (z8, z9)))), (((z10, z11), (z12, (z13, z14))), ((z15, z16), (z17, (z18, z19)))))
def m_pv (ad : Nat → Nat) (rt : Nat) : Value := match rt with
  | 0 => .null
  | n + 1 => .ref (ad (n + 1))
def mk_keys (k : Nat) : Nat := ([25, 26, 27, 28, 29, 30, 31, 32, 33, 34, 35, 36, 37, 38, 39, 40, 41, 42, 43, 44, 45, 46, 47, 48, 49, 50, 51, 52, 53, 54, 55, 56, 57, 58, 59, 60, 61, 62, 63, 64, 65, 66, 67, 68] : List Nat).getD k 0
theorem mk_keys_all : ∀ k, k < 44 → o_sb (mk_keys k) = true := by decide +kernel
theorem mk_keys_sb {i : Int32} (h : o_in i 44 = true) : o_sb (mk_keys i.toNatClampNeg) = true := mk_keys_all _ (Nat.not_le.mp fun q => o_in_in h (Or.inr q))
def mk_types (k : Nat) : Nat := ([2, 11, 12, 13, 14, 15, 16] : List Nat).getD k 0
theorem mk_types_all : ∀ k, k < 7 → o_sb (mk_types k) = true := by decide +kernel
theorem mk_types_sb {i : Int32} (h : o_in i 7 = true) : o_sb (mk_types i.toNatClampNeg) = true := mk_types_all _ (Nat.not_le.mp fun q => o_in_in h (Or.inr q))
def m_KY (ky ty : Nat → Option Nat) (sd : Nat → Nat) : Prop := (∀ i : Int32, o_in i 44 = true → ky i.toNatClampNeg = some (sd (mk_keys i.toNatClampNeg))) ∧ (∀ i : Int32, o_in i 7 = true → ty i.toNatClampNeg = some (sd (mk_types i.toNatClampNeg)))
theorem o_aldS {E : (Nat → Prop) → State → Heap → Prop} {p : Program} {l : Launch} {e : Env} {R : Room} {s : State} {m : MethodId} {args : Array Value} {below : List Frame} {meth : Method} {c : Code} {H : Heap} {locs : List Loc} {cells slots : Nat} {Q : State → Prop} {pc : Nat} {ls : Array Slot} {rest : List Value} {D : va_G} {cl : List vw_C} {tys : List (ClassId × FieldType)} {own : String} {bc : ByteArray} {ret : Option FieldType} {nL : Nat} {cc : Cond} {A : Nat → Prop} {w0 : va_W} (C : o_Cx E p s m args meth c D cl tys own bc ret nL cc A) (hP : va_P D cl w0 H) (q0 t0 : Nat) {b : Nat} {cA : ClassId} {K : String} {f : Nat → Option Nat} {N : Nat} (ha : w0[q0]? = some (b, .inl (cA, N, .inr (.inr (.inr (.inr f)))))) (ht : tys[t0]? = some (cA, .object K)) {i : Int32} (hin : o_in i N = true) {q : Nat} (hq : f i.toNatClampNeg = some q) (hdg : decode bc pc = .ok (.aaload, 1))
    (kk : W p l e R s m args below meth c H locs cells slots Q (F0 m (pc + 1) ls (.ref q :: rest))) : W p l e R s m args below meth c H locs cells slots Q (F0 m pc ls (.int i :: .ref b :: rest)) := by
  obtain ⟨hx, hb, hr, hlk, hml, hown, hts, hK, hA, he2⟩ := C
  refine va_aldq hx hb hK hP q0 t0 ha ht (o_in_in hin) hdg ?_
  rw [hq]
  exact kk
def F_MM : u_T := fun k => match k with
  | 0 => ("SchemaJudgeModel", "err", "I", false)
  | 1 => ("SchemaJudgeModel", "fed", "I", false)
  | 2 => ("SchemaJudgeModel", "wrong", "I", false)
  | 3 => ("SchemaJudgeModel", "octets", "[I", true)
  | 4 => ("SchemaJudgeModel", "schema", "LSchemaJudgeModel$Text;", true)
  | 5 => ("SchemaJudgeModel", "instance", "LSchemaJudgeModel$Text;", true)
  | 6 => ("SchemaJudgeModel", "nodeKind", "[I", true)
  | 7 => ("SchemaJudgeModel", "nodeA", "[I", true)
  | 8 => ("SchemaJudgeModel", "nodeB", "[I", true)
  | 9 => ("SchemaJudgeModel", "nodeC", "[I", true)
  | 10 => ("SchemaJudgeModel", "nodeNext", "[I", true)
  | 11 => ("SchemaJudgeModel", "low", "[I", true)
  | 12 => ("SchemaJudgeModel", "high", "[I", true)
  | 13 => ("SchemaJudgeModel", "setFrom", "[I", true)
  | 14 => ("SchemaJudgeModel", "setTo", "[I", true)
  | 15 => ("SchemaJudgeModel", "setNot", "[Z", true)
  | 16 => ("SchemaJudgeModel", "op", "[I", true)
  | 17 => ("SchemaJudgeModel", "opA", "[I", true)
  | 18 => ("SchemaJudgeModel", "opB", "[I", true)
  | 19 => ("SchemaJudgeModel", "mark", "[I", true)
  | 20 => ("SchemaJudgeModel", "now", "[I", true)
  | 21 => ("SchemaJudgeModel", "then", "[I", true)
  | 22 => ("SchemaJudgeModel", "todo", "[I", true)
  | 23 => ("SchemaJudgeModel", "nodes", "I", false)
  | 24 => ("SchemaJudgeModel", "sets", "I", false)
  | 25 => ("SchemaJudgeModel", "ranges", "I", false)
  | 26 => ("SchemaJudgeModel", "steps", "I", false)
  | 27 => ("SchemaJudgeModel", "pat", "I", false)
  | 28 => ("SchemaJudgeModel", "patEnd", "I", false)
  | 29 => ("SchemaJudgeModel", "round", "I", false)
  | 30 => ("SchemaJudgeModel", "many1", "I", false)
  | 31 => ("SchemaJudgeModel", "patText", "LSchemaJudgeModel$Text;", false)
  | 32 => ("SchemaJudgeModel", "broken", "Z", false)
  | 33 => ("SchemaJudgeModel", "keys", "[Ljava/lang/String;", true)
  | 34 => ("SchemaJudgeModel", "types", "[Ljava/lang/String;", true)
  | 35 => ("SchemaJudgeModel", "checked", "Z", false)
  | 36 => ("SchemaJudgeModel", "faultKind", "I", false)
  | 37 => ("SchemaJudgeModel", "faultValue", "I", false)
  | 38 => ("SchemaJudgeModel", "latestFault", "I", false)
  | 39 => ("SchemaJudgeModel", "anchors", "I", false)
  | 40 => ("SchemaJudgeModel", "key", "[I", true)
  | 41 => ("SchemaJudgeModel", "target", "[I", true)
  | 42 => ("SchemaJudgeModel", "anchorValue", "[I", true)
  | 43 => ("SchemaJudgeModel", "anchorSchema", "[I", true)
  | 44 => ("SchemaJudgeModel", "path", "[I", true)
  | 45 => ("SchemaJudgeModel", "route", "[I", true)
  | 46 => ("SchemaJudgeModel", "isSchema", "[Z", true)
  | 47 => ("SchemaJudgeModel", "seen1", "[Z", true)
  | 48 => ("SchemaJudgeModel", "pathSize", "I", false)
  | 49 => ("SchemaJudgeModel", "octetRow", "[I", true)
  | 50 => ("SchemaJudgeModel", "partRow", "[I", true)
  | 51 => ("SchemaJudgeModel", "pairValue", "[I", true)
  | 52 => ("SchemaJudgeModel", "pairKey", "[I", true)
  | 53 => ("SchemaJudgeModel", "pairs", "I", false)
  | 54 => ("SchemaJudgeModel", "judged", "I", false)
  | 55 => ("SchemaJudgeModel", "deepest", "I", false)
  | 56 => ("SchemaJudgeModel", "depth", "I", false)
  | 57 => ("SchemaJudgeModel", "over", "Z", false)
  | _ => ("SchemaJudgeModel", "seen", "J", false)
def t_MM : Nat → FieldType := fun k => match k with
  | 0 => .int
  | 1 => .int
  | 2 => .int
  | 3 => (.array .int)
  | 4 => (.object "SchemaJudgeModel$Text")
  | 5 => (.object "SchemaJudgeModel$Text")
  | 6 => (.array .int)
  | 7 => (.array .int)
  | 8 => (.array .int)
  | 9 => (.array .int)
  | 10 => (.array .int)
  | 11 => (.array .int)
  | 12 => (.array .int)
  | 13 => (.array .int)
  | 14 => (.array .int)
  | 15 => (.array .boolean)
  | 16 => (.array .int)
  | 17 => (.array .int)
  | 18 => (.array .int)
  | 19 => (.array .int)
  | 20 => (.array .int)
  | 21 => (.array .int)
  | 22 => (.array .int)
  | 23 => .int
  | 24 => .int
  | 25 => .int
  | 26 => .int
  | 27 => .int
  | 28 => .int
  | 29 => .int
  | 30 => .int
  | 31 => (.object "SchemaJudgeModel$Text")
  | 32 => .boolean
  | 33 => (.array (.object "java/lang/String"))
  | 34 => (.array (.object "java/lang/String"))
  | 35 => .boolean
  | 36 => .int
  | 37 => .int
  | 38 => .int
  | 39 => .int
  | 40 => (.array .int)
  | 41 => (.array .int)
  | 42 => (.array .int)
  | 43 => (.array .int)
  | 44 => (.array .int)
  | 45 => (.array .int)
  | 46 => (.array .boolean)
  | 47 => (.array .boolean)
  | 48 => .int
  | 49 => (.array .int)
  | 50 => (.array .int)
  | 51 => (.array .int)
  | 52 => (.array .int)
  | 53 => .int
  | 54 => .int
  | 55 => .int
  | 56 => .int
  | 57 => .boolean
  | _ => .long
theorem n_MM : ∀ a, a < 59 → ∀ b, b < 59 → a ≠ b → (F_MM a).2.1 ≠ (F_MM b).2.1 := by decide +kernel
theorem t_MM_ok : ∀ k, k < 59 → parseFieldDescriptor (F_MM k).2.2.1 = some (t_MM k) := by decide +kernel
def F_MT : u_T := fun k => match k with
  | 0 => ("SchemaJudgeModel$Text", "text", "[I", true)
  | 1 => ("SchemaJudgeModel$Text", "kind", "[I", true)
  | 2 => ("SchemaJudgeModel$Text", "place", "[I", true)
  | 3 => ("SchemaJudgeModel$Text", "many", "[I", true)
  | 4 => ("SchemaJudgeModel$Text", "parent", "[I", true)
  | 5 => ("SchemaJudgeModel$Text", "power", "[I", true)
  | 6 => ("SchemaJudgeModel$Text", "first", "[I", true)
  | 7 => ("SchemaJudgeModel$Text", "next", "[I", true)
  | 8 => ("SchemaJudgeModel$Text", "name", "[I", true)
  | 9 => ("SchemaJudgeModel$Text", "from", "[I", true)
  | 10 => ("SchemaJudgeModel$Text", "characters", "[I", true)
  | 11 => ("SchemaJudgeModel$Text", "digits", "[I", true)
  | 12 => ("SchemaJudgeModel$Text", "minus", "[Z", true)
  | 13 => ("SchemaJudgeModel$Text", "values", "I", false)
  | 14 => ("SchemaJudgeModel$Text", "letters", "I", false)
  | 15 => ("SchemaJudgeModel$Text", "at", "I", false)
  | 16 => ("SchemaJudgeModel$Text", "wrong", "I", false)
  | 17 => ("SchemaJudgeModel$Text", "used", "I", false)
  | 18 => ("SchemaJudgeModel$Text", "written", "I", false)
  | _ => ("SchemaJudgeModel$Text", "left", "[I", true)
def t_MT : Nat → FieldType := fun k => match k with
  | 0 => (.array .int)
  | 1 => (.array .int)
  | 2 => (.array .int)
  | 3 => (.array .int)
  | 4 => (.array .int)
  | 5 => (.array .int)
  | 6 => (.array .int)
  | 7 => (.array .int)
  | 8 => (.array .int)
  | 9 => (.array .int)
  | 10 => (.array .int)
  | 11 => (.array .int)
  | 12 => (.array .boolean)
  | 13 => .int
  | 14 => .int
  | 15 => .int
  | 16 => .int
  | 17 => .int
  | 18 => .int
  | _ => (.array .int)
theorem n_MT : ∀ a, a < 20 → ∀ b, b < 20 → a ≠ b → (F_MT a).2.1 ≠ (F_MT b).2.1 := by decide +kernel
theorem t_MT_ok : ∀ k, k < 20 → parseFieldDescriptor (F_MT k).2.2.1 = some (t_MT k) := by decide +kernel
abbrev m_cls : List vw_C := [("SchemaJudgeModel", F_MM, 59), ("SchemaJudgeModel$Text", F_MT, 20)]
abbrev m_tys (ca : Nat → ClassId) : List (ClassId × FieldType) := [(ca 0, .int), (ca 1, .int), (ca 2, .int), (ca 3, .int), (ca 4, .int), (ca 5, .int), (ca 6, .int), (ca 7, .int), (ca 8, .int), (ca 9, .int), (ca 10, .boolean), (ca 11, .int), (ca 12, .int), (ca 13, .int), (ca 14, .int), (ca 15, .int), (ca 16, .int), (ca 17, .int), (ca 18, (.object "java/lang/String")), (ca 19, (.object "java/lang/String")), (ca 20, .int), (ca 21, .int), (ca 22, .int), (ca 23, .int), (ca 24, .int), (ca 25, .int), (ca 26, .boolean), (ca 27, .boolean), (ca 28, .int), (ca 29, .int), (ca 30, .int), (ca 31, .int), (ca 32, .int), (ca 33, .int), (ca 34, .int), (ca 35, .int), (ca 36, .int), (ca 37, .int), (ca 38, .int), (ca 39, .int), (ca 40, .int), (ca 41, .int), (ca 42, .int), (ca 43, .int), (ca 44, .boolean), (ca 45, .int), (ca 46, .int), (ca 47, .int), (ca 48, .int), (ca 49, .int), (ca 50, .int), (ca 51, .int), (ca 52, .int), (ca 53, .int), (ca 54, .int), (ca 55, .int), (ca 56, .int), (ca 57, .int), (ca 58, .boolean), (ca 59, .int)]
def m_cw (ad : Nat → Nat) (ca : Nat → ClassId) (ky ty : Nat → Option Nat) (rt : Nat) (Ni : SNI) (Np : SNP) (No : SNO) (Nx : SNX) (Nf : SNF) (Na : SNA) (Nh : SNH) (Nq : SNQ) (Nj : SNJ) (M0 : SMT) (M1 : SMT) : va_W := [(ad 0, .inr (0, [.int (NI_err Ni), .int (NI_fed Ni), .int (NI_wrong Ni), .ref (ad 1), .ref (ad 33), .ref (ad 48), .ref (ad 2), .ref (ad 3), .ref (ad 4), .ref (ad 5), .ref (ad 6), .ref (ad 7), .ref (ad 8), .ref (ad 9), .ref (ad 10), .ref (ad 11), .ref (ad 12), .ref (ad 13), .ref (ad 14), .ref (ad 15), .ref (ad 16), .ref (ad 17), .ref (ad 18), .int (NP_nodes Np), .int (NP_sets Np), .int (NP_ranges Np), .int (NO_steps No), .int (NP_pat Np), .int (NP_patEnd Np), .int (NX_round Nx), .int (NX_many1 Nx), m_pv ad rt, .int (NP_broken Np), .ref (ad 19), .ref (ad 20), .int (NF_checked Nf), .int (NF_faultKind Nf), .int (NF_faultValue Nf), .int (NF_latestFault Nf), .int (NA_anchors Na), .ref (ad 21), .ref (ad 22), .ref (ad 23), .ref (ad 24), .ref (ad 25), .ref (ad 26), .ref (ad 27), .ref (ad 28), .int (NH_pathSize Nh), .ref (ad 29), .ref (ad 30), .ref (ad 31), .ref (ad 32), .int (NQ_pairs Nq), .int (NJ_judged Nj), .int (NJ_deepest Nj), .int (NJ_depth Nj), .int (NJ_over Nj), .long (NJ_seen Nj)])),
  (ad 1, .inl (ca 0, 8200, .inl (NI_octets Ni))),
  (ad 2, .inl (ca 1, 16000, .inl (NP_nodeKind Np))),
  (ad 3, .inl (ca 2, 16000, .inl (NP_nodeA Np))),
  (ad 4, .inl (ca 3, 16000, .inl (NP_nodeB Np))),
  (ad 5, .inl (ca 4, 16000, .inl (NP_nodeC Np))),
  (ad 6, .inl (ca 5, 16000, .inl (NP_nodeNext Np))),
  (ad 7, .inl (ca 6, 48000, .inl (NP_low Np))),
  (ad 8, .inl (ca 7, 48000, .inl (NP_high Np))),
  (ad 9, .inl (ca 8, 8000, .inl (NP_setFrom Np))),
  (ad 10, .inl (ca 9, 8000, .inl (NP_setTo Np))),
  (ad 11, .inl (ca 10, 8000, .inl (NP_setNot Np))),
  (ad 12, .inl (ca 11, 25000, .inl (NO_op No))),
  (ad 13, .inl (ca 12, 25000, .inl (NO_opA No))),
  (ad 14, .inl (ca 13, 25000, .inl (NO_opB No))),
  (ad 15, .inl (ca 14, 25000, .inl (NX_mark Nx))),
  (ad 16, .inl (ca 15, 25000, .inl (NX_now Nx))),
  (ad 17, .inl (ca 16, 25000, .inl (NX_then Nx))),
  (ad 18, .inl (ca 17, 50000, .inl (NX_todo Nx))),
  (ad 19, .inl (ca 18, 44, .inr (.inr (.inr (.inr ky))))),
  (ad 20, .inl (ca 19, 7, .inr (.inr (.inr (.inr ty))))),
  (ad 21, .inl (ca 20, 1000, .inl (NA_key Na))),
  (ad 22, .inl (ca 21, 1000, .inl (NA_target Na))),
  (ad 23, .inl (ca 22, 1000, .inl (NA_anchorValue Na))),
  (ad 24, .inl (ca 23, 1000, .inl (NA_anchorSchema Na))),
  (ad 25, .inl (ca 24, 8192, .inl (NH_path Nh))),
  (ad 26, .inl (ca 25, 2000, .inl (NH_route Nh))),
  (ad 27, .inl (ca 26, 1000, .inl (NA_isSchema Na))),
  (ad 28, .inl (ca 27, 1000, .inl (NH_seen1 Nh))),
  (ad 29, .inl (ca 28, 16004, .inl (NH_octetRow Nh))),
  (ad 30, .inl (ca 29, 4004, .inl (NH_partRow Nh))),
  (ad 31, .inl (ca 30, 300, .inl (NQ_pairValue Nq))),
  (ad 32, .inl (ca 31, 300, .inl (NQ_pairKey Nq))),
  (ad 33, .inr (1, [.ref (ad 34), .ref (ad 35), .ref (ad 36), .ref (ad 37), .ref (ad 38), .ref (ad 39), .ref (ad 40), .ref (ad 41), .ref (ad 42), .ref (ad 43), .ref (ad 44), .ref (ad 45), .ref (ad 46), .int (MT_values M0), .int (MT_letters M0), .int (MT_at M0), .int (MT_wrong M0), .int (MT_used M0), .int (MT_written M0), .ref (ad 47)])),
  (ad 34, .inl (ca 32, 8196, .inl (MT_text M0))),
  (ad 35, .inl (ca 33, 1000, .inl (MT_kind M0))),
  (ad 36, .inl (ca 34, 1000, .inl (MT_place M0))),
  (ad 37, .inl (ca 35, 1000, .inl (MT_many M0))),
  (ad 38, .inl (ca 36, 1000, .inl (MT_parent M0))),
  (ad 39, .inl (ca 37, 1000, .inl (MT_power M0))),
  (ad 40, .inl (ca 38, 1000, .inl (MT_first M0))),
  (ad 41, .inl (ca 39, 1000, .inl (MT_next M0))),
  (ad 42, .inl (ca 40, 1000, .inl (MT_name M0))),
  (ad 43, .inl (ca 41, 1000, .inl (MT_from M0))),
  (ad 44, .inl (ca 42, 4000, .inl (MT_characters M0))),
  (ad 45, .inl (ca 43, 8192, .inl (MT_digits M0))),
  (ad 46, .inl (ca 44, 1000, .inl (MT_minus M0))),
  (ad 47, .inl (ca 45, 80, .inl (MT_left M0))),
  (ad 48, .inr (1, [.ref (ad 49), .ref (ad 50), .ref (ad 51), .ref (ad 52), .ref (ad 53), .ref (ad 54), .ref (ad 55), .ref (ad 56), .ref (ad 57), .ref (ad 58), .ref (ad 59), .ref (ad 60), .ref (ad 61), .int (MT_values M1), .int (MT_letters M1), .int (MT_at M1), .int (MT_wrong M1), .int (MT_used M1), .int (MT_written M1), .ref (ad 62)])),
  (ad 49, .inl (ca 46, 8196, .inl (MT_text M1))),
  (ad 50, .inl (ca 47, 1000, .inl (MT_kind M1))),
  (ad 51, .inl (ca 48, 1000, .inl (MT_place M1))),
  (ad 52, .inl (ca 49, 1000, .inl (MT_many M1))),
  (ad 53, .inl (ca 50, 1000, .inl (MT_parent M1))),
  (ad 54, .inl (ca 51, 1000, .inl (MT_power M1))),
  (ad 55, .inl (ca 52, 1000, .inl (MT_first M1))),
  (ad 56, .inl (ca 53, 1000, .inl (MT_next M1))),
  (ad 57, .inl (ca 54, 1000, .inl (MT_name M1))),
  (ad 58, .inl (ca 55, 1000, .inl (MT_from M1))),
  (ad 59, .inl (ca 56, 4000, .inl (MT_characters M1))),
  (ad 60, .inl (ca 57, 8192, .inl (MT_digits M1))),
  (ad 61, .inl (ca 58, 1000, .inl (MT_minus M1))),
  (ad 62, .inl (ca 59, 80, .inl (MT_left M1)))]
theorem mw_0 {ad : Nat → Nat} {ca : Nat → ClassId} {ky ty : Nat → Option Nat} {rt : Nat} {Ni : SNI} {Np : SNP} {No : SNO} {Nx : SNX} {Nf : SNF} {Na : SNA} {Nh : SNH} {Nq : SNQ} {Nj : SNJ} {M0 : SMT} {M1 : SMT} : (m_cw ad ca ky ty rt Ni Np No Nx Nf Na Nh Nq Nj M0 M1)[0]? = some (ad 0, .inr (0, [.int (NI_err Ni), .int (NI_fed Ni), .int (NI_wrong Ni), .ref (ad 1), .ref (ad 33), .ref (ad 48), .ref (ad 2), .ref (ad 3), .ref (ad 4), .ref (ad 5), .ref (ad 6), .ref (ad 7), .ref (ad 8), .ref (ad 9), .ref (ad 10), .ref (ad 11), .ref (ad 12), .ref (ad 13), .ref (ad 14), .ref (ad 15), .ref (ad 16), .ref (ad 17), .ref (ad 18), .int (NP_nodes Np), .int (NP_sets Np), .int (NP_ranges Np), .int (NO_steps No), .int (NP_pat Np), .int (NP_patEnd Np), .int (NX_round Nx), .int (NX_many1 Nx), m_pv ad rt, .int (NP_broken Np), .ref (ad 19), .ref (ad 20), .int (NF_checked Nf), .int (NF_faultKind Nf), .int (NF_faultValue Nf), .int (NF_latestFault Nf), .int (NA_anchors Na), .ref (ad 21), .ref (ad 22), .ref (ad 23), .ref (ad 24), .ref (ad 25), .ref (ad 26), .ref (ad 27), .ref (ad 28), .int (NH_pathSize Nh), .ref (ad 29), .ref (ad 30), .ref (ad 31), .ref (ad 32), .int (NQ_pairs Nq), .int (NJ_judged Nj), .int (NJ_deepest Nj), .int (NJ_depth Nj), .int (NJ_over Nj), .long (NJ_seen Nj)])) := rfl
theorem mw_1 {ad : Nat → Nat} {ca : Nat → ClassId} {ky ty : Nat → Option Nat} {rt : Nat} {Ni : SNI} {Np : SNP} {No : SNO} {Nx : SNX} {Nf : SNF} {Na : SNA} {Nh : SNH} {Nq : SNQ} {Nj : SNJ} {M0 : SMT} {M1 : SMT} : (m_cw ad ca ky ty rt Ni Np No Nx Nf Na Nh Nq Nj M0 M1)[1]? = some (ad 1, .inl (ca 0, 8200, .inl (NI_octets Ni))) := rfl
theorem mw_2 {ad : Nat → Nat} {ca : Nat → ClassId} {ky ty : Nat → Option Nat} {rt : Nat} {Ni : SNI} {Np : SNP} {No : SNO} {Nx : SNX} {Nf : SNF} {Na : SNA} {Nh : SNH} {Nq : SNQ} {Nj : SNJ} {M0 : SMT} {M1 : SMT} : (m_cw ad ca ky ty rt Ni Np No Nx Nf Na Nh Nq Nj M0 M1)[2]? = some (ad 2, .inl (ca 1, 16000, .inl (NP_nodeKind Np))) := rfl
theorem mw_3 {ad : Nat → Nat} {ca : Nat → ClassId} {ky ty : Nat → Option Nat} {rt : Nat} {Ni : SNI} {Np : SNP} {No : SNO} {Nx : SNX} {Nf : SNF} {Na : SNA} {Nh : SNH} {Nq : SNQ} {Nj : SNJ} {M0 : SMT} {M1 : SMT} : (m_cw ad ca ky ty rt Ni Np No Nx Nf Na Nh Nq Nj M0 M1)[3]? = some (ad 3, .inl (ca 2, 16000, .inl (NP_nodeA Np))) := rfl
theorem mw_4 {ad : Nat → Nat} {ca : Nat → ClassId} {ky ty : Nat → Option Nat} {rt : Nat} {Ni : SNI} {Np : SNP} {No : SNO} {Nx : SNX} {Nf : SNF} {Na : SNA} {Nh : SNH} {Nq : SNQ} {Nj : SNJ} {M0 : SMT} {M1 : SMT} : (m_cw ad ca ky ty rt Ni Np No Nx Nf Na Nh Nq Nj M0 M1)[4]? = some (ad 4, .inl (ca 3, 16000, .inl (NP_nodeB Np))) := rfl
theorem mw_5 {ad : Nat → Nat} {ca : Nat → ClassId} {ky ty : Nat → Option Nat} {rt : Nat} {Ni : SNI} {Np : SNP} {No : SNO} {Nx : SNX} {Nf : SNF} {Na : SNA} {Nh : SNH} {Nq : SNQ} {Nj : SNJ} {M0 : SMT} {M1 : SMT} : (m_cw ad ca ky ty rt Ni Np No Nx Nf Na Nh Nq Nj M0 M1)[5]? = some (ad 5, .inl (ca 4, 16000, .inl (NP_nodeC Np))) := rfl
theorem mw_6 {ad : Nat → Nat} {ca : Nat → ClassId} {ky ty : Nat → Option Nat} {rt : Nat} {Ni : SNI} {Np : SNP} {No : SNO} {Nx : SNX} {Nf : SNF} {Na : SNA} {Nh : SNH} {Nq : SNQ} {Nj : SNJ} {M0 : SMT} {M1 : SMT} : (m_cw ad ca ky ty rt Ni Np No Nx Nf Na Nh Nq Nj M0 M1)[6]? = some (ad 6, .inl (ca 5, 16000, .inl (NP_nodeNext Np))) := rfl
theorem mw_7 {ad : Nat → Nat} {ca : Nat → ClassId} {ky ty : Nat → Option Nat} {rt : Nat} {Ni : SNI} {Np : SNP} {No : SNO} {Nx : SNX} {Nf : SNF} {Na : SNA} {Nh : SNH} {Nq : SNQ} {Nj : SNJ} {M0 : SMT} {M1 : SMT} : (m_cw ad ca ky ty rt Ni Np No Nx Nf Na Nh Nq Nj M0 M1)[7]? = some (ad 7, .inl (ca 6, 48000, .inl (NP_low Np))) := rfl
theorem mw_8 {ad : Nat → Nat} {ca : Nat → ClassId} {ky ty : Nat → Option Nat} {rt : Nat} {Ni : SNI} {Np : SNP} {No : SNO} {Nx : SNX} {Nf : SNF} {Na : SNA} {Nh : SNH} {Nq : SNQ} {Nj : SNJ} {M0 : SMT} {M1 : SMT} : (m_cw ad ca ky ty rt Ni Np No Nx Nf Na Nh Nq Nj M0 M1)[8]? = some (ad 8, .inl (ca 7, 48000, .inl (NP_high Np))) := rfl
theorem mw_9 {ad : Nat → Nat} {ca : Nat → ClassId} {ky ty : Nat → Option Nat} {rt : Nat} {Ni : SNI} {Np : SNP} {No : SNO} {Nx : SNX} {Nf : SNF} {Na : SNA} {Nh : SNH} {Nq : SNQ} {Nj : SNJ} {M0 : SMT} {M1 : SMT} : (m_cw ad ca ky ty rt Ni Np No Nx Nf Na Nh Nq Nj M0 M1)[9]? = some (ad 9, .inl (ca 8, 8000, .inl (NP_setFrom Np))) := rfl
theorem mw_10 {ad : Nat → Nat} {ca : Nat → ClassId} {ky ty : Nat → Option Nat} {rt : Nat} {Ni : SNI} {Np : SNP} {No : SNO} {Nx : SNX} {Nf : SNF} {Na : SNA} {Nh : SNH} {Nq : SNQ} {Nj : SNJ} {M0 : SMT} {M1 : SMT} : (m_cw ad ca ky ty rt Ni Np No Nx Nf Na Nh Nq Nj M0 M1)[10]? = some (ad 10, .inl (ca 9, 8000, .inl (NP_setTo Np))) := rfl
theorem mw_11 {ad : Nat → Nat} {ca : Nat → ClassId} {ky ty : Nat → Option Nat} {rt : Nat} {Ni : SNI} {Np : SNP} {No : SNO} {Nx : SNX} {Nf : SNF} {Na : SNA} {Nh : SNH} {Nq : SNQ} {Nj : SNJ} {M0 : SMT} {M1 : SMT} : (m_cw ad ca ky ty rt Ni Np No Nx Nf Na Nh Nq Nj M0 M1)[11]? = some (ad 11, .inl (ca 10, 8000, .inl (NP_setNot Np))) := rfl
theorem mw_12 {ad : Nat → Nat} {ca : Nat → ClassId} {ky ty : Nat → Option Nat} {rt : Nat} {Ni : SNI} {Np : SNP} {No : SNO} {Nx : SNX} {Nf : SNF} {Na : SNA} {Nh : SNH} {Nq : SNQ} {Nj : SNJ} {M0 : SMT} {M1 : SMT} : (m_cw ad ca ky ty rt Ni Np No Nx Nf Na Nh Nq Nj M0 M1)[12]? = some (ad 12, .inl (ca 11, 25000, .inl (NO_op No))) := rfl
theorem mw_13 {ad : Nat → Nat} {ca : Nat → ClassId} {ky ty : Nat → Option Nat} {rt : Nat} {Ni : SNI} {Np : SNP} {No : SNO} {Nx : SNX} {Nf : SNF} {Na : SNA} {Nh : SNH} {Nq : SNQ} {Nj : SNJ} {M0 : SMT} {M1 : SMT} : (m_cw ad ca ky ty rt Ni Np No Nx Nf Na Nh Nq Nj M0 M1)[13]? = some (ad 13, .inl (ca 12, 25000, .inl (NO_opA No))) := rfl
theorem mw_14 {ad : Nat → Nat} {ca : Nat → ClassId} {ky ty : Nat → Option Nat} {rt : Nat} {Ni : SNI} {Np : SNP} {No : SNO} {Nx : SNX} {Nf : SNF} {Na : SNA} {Nh : SNH} {Nq : SNQ} {Nj : SNJ} {M0 : SMT} {M1 : SMT} : (m_cw ad ca ky ty rt Ni Np No Nx Nf Na Nh Nq Nj M0 M1)[14]? = some (ad 14, .inl (ca 13, 25000, .inl (NO_opB No))) := rfl
theorem mw_15 {ad : Nat → Nat} {ca : Nat → ClassId} {ky ty : Nat → Option Nat} {rt : Nat} {Ni : SNI} {Np : SNP} {No : SNO} {Nx : SNX} {Nf : SNF} {Na : SNA} {Nh : SNH} {Nq : SNQ} {Nj : SNJ} {M0 : SMT} {M1 : SMT} : (m_cw ad ca ky ty rt Ni Np No Nx Nf Na Nh Nq Nj M0 M1)[15]? = some (ad 15, .inl (ca 14, 25000, .inl (NX_mark Nx))) := rfl
theorem mw_16 {ad : Nat → Nat} {ca : Nat → ClassId} {ky ty : Nat → Option Nat} {rt : Nat} {Ni : SNI} {Np : SNP} {No : SNO} {Nx : SNX} {Nf : SNF} {Na : SNA} {Nh : SNH} {Nq : SNQ} {Nj : SNJ} {M0 : SMT} {M1 : SMT} : (m_cw ad ca ky ty rt Ni Np No Nx Nf Na Nh Nq Nj M0 M1)[16]? = some (ad 16, .inl (ca 15, 25000, .inl (NX_now Nx))) := rfl
theorem mw_17 {ad : Nat → Nat} {ca : Nat → ClassId} {ky ty : Nat → Option Nat} {rt : Nat} {Ni : SNI} {Np : SNP} {No : SNO} {Nx : SNX} {Nf : SNF} {Na : SNA} {Nh : SNH} {Nq : SNQ} {Nj : SNJ} {M0 : SMT} {M1 : SMT} : (m_cw ad ca ky ty rt Ni Np No Nx Nf Na Nh Nq Nj M0 M1)[17]? = some (ad 17, .inl (ca 16, 25000, .inl (NX_then Nx))) := rfl
theorem mw_18 {ad : Nat → Nat} {ca : Nat → ClassId} {ky ty : Nat → Option Nat} {rt : Nat} {Ni : SNI} {Np : SNP} {No : SNO} {Nx : SNX} {Nf : SNF} {Na : SNA} {Nh : SNH} {Nq : SNQ} {Nj : SNJ} {M0 : SMT} {M1 : SMT} : (m_cw ad ca ky ty rt Ni Np No Nx Nf Na Nh Nq Nj M0 M1)[18]? = some (ad 18, .inl (ca 17, 50000, .inl (NX_todo Nx))) := rfl
theorem mw_19 {ad : Nat → Nat} {ca : Nat → ClassId} {ky ty : Nat → Option Nat} {rt : Nat} {Ni : SNI} {Np : SNP} {No : SNO} {Nx : SNX} {Nf : SNF} {Na : SNA} {Nh : SNH} {Nq : SNQ} {Nj : SNJ} {M0 : SMT} {M1 : SMT} : (m_cw ad ca ky ty rt Ni Np No Nx Nf Na Nh Nq Nj M0 M1)[19]? = some (ad 19, .inl (ca 18, 44, .inr (.inr (.inr (.inr ky))))) := rfl
theorem mw_20 {ad : Nat → Nat} {ca : Nat → ClassId} {ky ty : Nat → Option Nat} {rt : Nat} {Ni : SNI} {Np : SNP} {No : SNO} {Nx : SNX} {Nf : SNF} {Na : SNA} {Nh : SNH} {Nq : SNQ} {Nj : SNJ} {M0 : SMT} {M1 : SMT} : (m_cw ad ca ky ty rt Ni Np No Nx Nf Na Nh Nq Nj M0 M1)[20]? = some (ad 20, .inl (ca 19, 7, .inr (.inr (.inr (.inr ty))))) := rfl
theorem mw_21 {ad : Nat → Nat} {ca : Nat → ClassId} {ky ty : Nat → Option Nat} {rt : Nat} {Ni : SNI} {Np : SNP} {No : SNO} {Nx : SNX} {Nf : SNF} {Na : SNA} {Nh : SNH} {Nq : SNQ} {Nj : SNJ} {M0 : SMT} {M1 : SMT} : (m_cw ad ca ky ty rt Ni Np No Nx Nf Na Nh Nq Nj M0 M1)[21]? = some (ad 21, .inl (ca 20, 1000, .inl (NA_key Na))) := rfl
theorem mw_22 {ad : Nat → Nat} {ca : Nat → ClassId} {ky ty : Nat → Option Nat} {rt : Nat} {Ni : SNI} {Np : SNP} {No : SNO} {Nx : SNX} {Nf : SNF} {Na : SNA} {Nh : SNH} {Nq : SNQ} {Nj : SNJ} {M0 : SMT} {M1 : SMT} : (m_cw ad ca ky ty rt Ni Np No Nx Nf Na Nh Nq Nj M0 M1)[22]? = some (ad 22, .inl (ca 21, 1000, .inl (NA_target Na))) := rfl
theorem mw_23 {ad : Nat → Nat} {ca : Nat → ClassId} {ky ty : Nat → Option Nat} {rt : Nat} {Ni : SNI} {Np : SNP} {No : SNO} {Nx : SNX} {Nf : SNF} {Na : SNA} {Nh : SNH} {Nq : SNQ} {Nj : SNJ} {M0 : SMT} {M1 : SMT} : (m_cw ad ca ky ty rt Ni Np No Nx Nf Na Nh Nq Nj M0 M1)[23]? = some (ad 23, .inl (ca 22, 1000, .inl (NA_anchorValue Na))) := rfl
theorem mw_24 {ad : Nat → Nat} {ca : Nat → ClassId} {ky ty : Nat → Option Nat} {rt : Nat} {Ni : SNI} {Np : SNP} {No : SNO} {Nx : SNX} {Nf : SNF} {Na : SNA} {Nh : SNH} {Nq : SNQ} {Nj : SNJ} {M0 : SMT} {M1 : SMT} : (m_cw ad ca ky ty rt Ni Np No Nx Nf Na Nh Nq Nj M0 M1)[24]? = some (ad 24, .inl (ca 23, 1000, .inl (NA_anchorSchema Na))) := rfl
theorem mw_25 {ad : Nat → Nat} {ca : Nat → ClassId} {ky ty : Nat → Option Nat} {rt : Nat} {Ni : SNI} {Np : SNP} {No : SNO} {Nx : SNX} {Nf : SNF} {Na : SNA} {Nh : SNH} {Nq : SNQ} {Nj : SNJ} {M0 : SMT} {M1 : SMT} : (m_cw ad ca ky ty rt Ni Np No Nx Nf Na Nh Nq Nj M0 M1)[25]? = some (ad 25, .inl (ca 24, 8192, .inl (NH_path Nh))) := rfl
theorem mw_26 {ad : Nat → Nat} {ca : Nat → ClassId} {ky ty : Nat → Option Nat} {rt : Nat} {Ni : SNI} {Np : SNP} {No : SNO} {Nx : SNX} {Nf : SNF} {Na : SNA} {Nh : SNH} {Nq : SNQ} {Nj : SNJ} {M0 : SMT} {M1 : SMT} : (m_cw ad ca ky ty rt Ni Np No Nx Nf Na Nh Nq Nj M0 M1)[26]? = some (ad 26, .inl (ca 25, 2000, .inl (NH_route Nh))) := rfl
theorem mw_27 {ad : Nat → Nat} {ca : Nat → ClassId} {ky ty : Nat → Option Nat} {rt : Nat} {Ni : SNI} {Np : SNP} {No : SNO} {Nx : SNX} {Nf : SNF} {Na : SNA} {Nh : SNH} {Nq : SNQ} {Nj : SNJ} {M0 : SMT} {M1 : SMT} : (m_cw ad ca ky ty rt Ni Np No Nx Nf Na Nh Nq Nj M0 M1)[27]? = some (ad 27, .inl (ca 26, 1000, .inl (NA_isSchema Na))) := rfl
theorem mw_28 {ad : Nat → Nat} {ca : Nat → ClassId} {ky ty : Nat → Option Nat} {rt : Nat} {Ni : SNI} {Np : SNP} {No : SNO} {Nx : SNX} {Nf : SNF} {Na : SNA} {Nh : SNH} {Nq : SNQ} {Nj : SNJ} {M0 : SMT} {M1 : SMT} : (m_cw ad ca ky ty rt Ni Np No Nx Nf Na Nh Nq Nj M0 M1)[28]? = some (ad 28, .inl (ca 27, 1000, .inl (NH_seen1 Nh))) := rfl
theorem mw_29 {ad : Nat → Nat} {ca : Nat → ClassId} {ky ty : Nat → Option Nat} {rt : Nat} {Ni : SNI} {Np : SNP} {No : SNO} {Nx : SNX} {Nf : SNF} {Na : SNA} {Nh : SNH} {Nq : SNQ} {Nj : SNJ} {M0 : SMT} {M1 : SMT} : (m_cw ad ca ky ty rt Ni Np No Nx Nf Na Nh Nq Nj M0 M1)[29]? = some (ad 29, .inl (ca 28, 16004, .inl (NH_octetRow Nh))) := rfl
theorem mw_30 {ad : Nat → Nat} {ca : Nat → ClassId} {ky ty : Nat → Option Nat} {rt : Nat} {Ni : SNI} {Np : SNP} {No : SNO} {Nx : SNX} {Nf : SNF} {Na : SNA} {Nh : SNH} {Nq : SNQ} {Nj : SNJ} {M0 : SMT} {M1 : SMT} : (m_cw ad ca ky ty rt Ni Np No Nx Nf Na Nh Nq Nj M0 M1)[30]? = some (ad 30, .inl (ca 29, 4004, .inl (NH_partRow Nh))) := rfl
theorem mw_31 {ad : Nat → Nat} {ca : Nat → ClassId} {ky ty : Nat → Option Nat} {rt : Nat} {Ni : SNI} {Np : SNP} {No : SNO} {Nx : SNX} {Nf : SNF} {Na : SNA} {Nh : SNH} {Nq : SNQ} {Nj : SNJ} {M0 : SMT} {M1 : SMT} : (m_cw ad ca ky ty rt Ni Np No Nx Nf Na Nh Nq Nj M0 M1)[31]? = some (ad 31, .inl (ca 30, 300, .inl (NQ_pairValue Nq))) := rfl
theorem mw_32 {ad : Nat → Nat} {ca : Nat → ClassId} {ky ty : Nat → Option Nat} {rt : Nat} {Ni : SNI} {Np : SNP} {No : SNO} {Nx : SNX} {Nf : SNF} {Na : SNA} {Nh : SNH} {Nq : SNQ} {Nj : SNJ} {M0 : SMT} {M1 : SMT} : (m_cw ad ca ky ty rt Ni Np No Nx Nf Na Nh Nq Nj M0 M1)[32]? = some (ad 32, .inl (ca 31, 300, .inl (NQ_pairKey Nq))) := rfl
theorem mw_33 {ad : Nat → Nat} {ca : Nat → ClassId} {ky ty : Nat → Option Nat} {rt : Nat} {Ni : SNI} {Np : SNP} {No : SNO} {Nx : SNX} {Nf : SNF} {Na : SNA} {Nh : SNH} {Nq : SNQ} {Nj : SNJ} {M0 : SMT} {M1 : SMT} : (m_cw ad ca ky ty rt Ni Np No Nx Nf Na Nh Nq Nj M0 M1)[33]? = some (ad 33, .inr (1, [.ref (ad 34), .ref (ad 35), .ref (ad 36), .ref (ad 37), .ref (ad 38), .ref (ad 39), .ref (ad 40), .ref (ad 41), .ref (ad 42), .ref (ad 43), .ref (ad 44), .ref (ad 45), .ref (ad 46), .int (MT_values M0), .int (MT_letters M0), .int (MT_at M0), .int (MT_wrong M0), .int (MT_used M0), .int (MT_written M0), .ref (ad 47)])) := rfl
theorem mw_34 {ad : Nat → Nat} {ca : Nat → ClassId} {ky ty : Nat → Option Nat} {rt : Nat} {Ni : SNI} {Np : SNP} {No : SNO} {Nx : SNX} {Nf : SNF} {Na : SNA} {Nh : SNH} {Nq : SNQ} {Nj : SNJ} {M0 : SMT} {M1 : SMT} : (m_cw ad ca ky ty rt Ni Np No Nx Nf Na Nh Nq Nj M0 M1)[34]? = some (ad 34, .inl (ca 32, 8196, .inl (MT_text M0))) := rfl
theorem mw_35 {ad : Nat → Nat} {ca : Nat → ClassId} {ky ty : Nat → Option Nat} {rt : Nat} {Ni : SNI} {Np : SNP} {No : SNO} {Nx : SNX} {Nf : SNF} {Na : SNA} {Nh : SNH} {Nq : SNQ} {Nj : SNJ} {M0 : SMT} {M1 : SMT} : (m_cw ad ca ky ty rt Ni Np No Nx Nf Na Nh Nq Nj M0 M1)[35]? = some (ad 35, .inl (ca 33, 1000, .inl (MT_kind M0))) := rfl
theorem mw_36 {ad : Nat → Nat} {ca : Nat → ClassId} {ky ty : Nat → Option Nat} {rt : Nat} {Ni : SNI} {Np : SNP} {No : SNO} {Nx : SNX} {Nf : SNF} {Na : SNA} {Nh : SNH} {Nq : SNQ} {Nj : SNJ} {M0 : SMT} {M1 : SMT} : (m_cw ad ca ky ty rt Ni Np No Nx Nf Na Nh Nq Nj M0 M1)[36]? = some (ad 36, .inl (ca 34, 1000, .inl (MT_place M0))) := rfl
theorem mw_37 {ad : Nat → Nat} {ca : Nat → ClassId} {ky ty : Nat → Option Nat} {rt : Nat} {Ni : SNI} {Np : SNP} {No : SNO} {Nx : SNX} {Nf : SNF} {Na : SNA} {Nh : SNH} {Nq : SNQ} {Nj : SNJ} {M0 : SMT} {M1 : SMT} : (m_cw ad ca ky ty rt Ni Np No Nx Nf Na Nh Nq Nj M0 M1)[37]? = some (ad 37, .inl (ca 35, 1000, .inl (MT_many M0))) := rfl
theorem mw_38 {ad : Nat → Nat} {ca : Nat → ClassId} {ky ty : Nat → Option Nat} {rt : Nat} {Ni : SNI} {Np : SNP} {No : SNO} {Nx : SNX} {Nf : SNF} {Na : SNA} {Nh : SNH} {Nq : SNQ} {Nj : SNJ} {M0 : SMT} {M1 : SMT} : (m_cw ad ca ky ty rt Ni Np No Nx Nf Na Nh Nq Nj M0 M1)[38]? = some (ad 38, .inl (ca 36, 1000, .inl (MT_parent M0))) := rfl
theorem mw_39 {ad : Nat → Nat} {ca : Nat → ClassId} {ky ty : Nat → Option Nat} {rt : Nat} {Ni : SNI} {Np : SNP} {No : SNO} {Nx : SNX} {Nf : SNF} {Na : SNA} {Nh : SNH} {Nq : SNQ} {Nj : SNJ} {M0 : SMT} {M1 : SMT} : (m_cw ad ca ky ty rt Ni Np No Nx Nf Na Nh Nq Nj M0 M1)[39]? = some (ad 39, .inl (ca 37, 1000, .inl (MT_power M0))) := rfl
theorem mw_40 {ad : Nat → Nat} {ca : Nat → ClassId} {ky ty : Nat → Option Nat} {rt : Nat} {Ni : SNI} {Np : SNP} {No : SNO} {Nx : SNX} {Nf : SNF} {Na : SNA} {Nh : SNH} {Nq : SNQ} {Nj : SNJ} {M0 : SMT} {M1 : SMT} : (m_cw ad ca ky ty rt Ni Np No Nx Nf Na Nh Nq Nj M0 M1)[40]? = some (ad 40, .inl (ca 38, 1000, .inl (MT_first M0))) := rfl
theorem mw_41 {ad : Nat → Nat} {ca : Nat → ClassId} {ky ty : Nat → Option Nat} {rt : Nat} {Ni : SNI} {Np : SNP} {No : SNO} {Nx : SNX} {Nf : SNF} {Na : SNA} {Nh : SNH} {Nq : SNQ} {Nj : SNJ} {M0 : SMT} {M1 : SMT} : (m_cw ad ca ky ty rt Ni Np No Nx Nf Na Nh Nq Nj M0 M1)[41]? = some (ad 41, .inl (ca 39, 1000, .inl (MT_next M0))) := rfl
theorem mw_42 {ad : Nat → Nat} {ca : Nat → ClassId} {ky ty : Nat → Option Nat} {rt : Nat} {Ni : SNI} {Np : SNP} {No : SNO} {Nx : SNX} {Nf : SNF} {Na : SNA} {Nh : SNH} {Nq : SNQ} {Nj : SNJ} {M0 : SMT} {M1 : SMT} : (m_cw ad ca ky ty rt Ni Np No Nx Nf Na Nh Nq Nj M0 M1)[42]? = some (ad 42, .inl (ca 40, 1000, .inl (MT_name M0))) := rfl
theorem mw_43 {ad : Nat → Nat} {ca : Nat → ClassId} {ky ty : Nat → Option Nat} {rt : Nat} {Ni : SNI} {Np : SNP} {No : SNO} {Nx : SNX} {Nf : SNF} {Na : SNA} {Nh : SNH} {Nq : SNQ} {Nj : SNJ} {M0 : SMT} {M1 : SMT} : (m_cw ad ca ky ty rt Ni Np No Nx Nf Na Nh Nq Nj M0 M1)[43]? = some (ad 43, .inl (ca 41, 1000, .inl (MT_from M0))) := rfl
theorem mw_44 {ad : Nat → Nat} {ca : Nat → ClassId} {ky ty : Nat → Option Nat} {rt : Nat} {Ni : SNI} {Np : SNP} {No : SNO} {Nx : SNX} {Nf : SNF} {Na : SNA} {Nh : SNH} {Nq : SNQ} {Nj : SNJ} {M0 : SMT} {M1 : SMT} : (m_cw ad ca ky ty rt Ni Np No Nx Nf Na Nh Nq Nj M0 M1)[44]? = some (ad 44, .inl (ca 42, 4000, .inl (MT_characters M0))) := rfl
theorem mw_45 {ad : Nat → Nat} {ca : Nat → ClassId} {ky ty : Nat → Option Nat} {rt : Nat} {Ni : SNI} {Np : SNP} {No : SNO} {Nx : SNX} {Nf : SNF} {Na : SNA} {Nh : SNH} {Nq : SNQ} {Nj : SNJ} {M0 : SMT} {M1 : SMT} : (m_cw ad ca ky ty rt Ni Np No Nx Nf Na Nh Nq Nj M0 M1)[45]? = some (ad 45, .inl (ca 43, 8192, .inl (MT_digits M0))) := rfl
theorem mw_46 {ad : Nat → Nat} {ca : Nat → ClassId} {ky ty : Nat → Option Nat} {rt : Nat} {Ni : SNI} {Np : SNP} {No : SNO} {Nx : SNX} {Nf : SNF} {Na : SNA} {Nh : SNH} {Nq : SNQ} {Nj : SNJ} {M0 : SMT} {M1 : SMT} : (m_cw ad ca ky ty rt Ni Np No Nx Nf Na Nh Nq Nj M0 M1)[46]? = some (ad 46, .inl (ca 44, 1000, .inl (MT_minus M0))) := rfl
theorem mw_47 {ad : Nat → Nat} {ca : Nat → ClassId} {ky ty : Nat → Option Nat} {rt : Nat} {Ni : SNI} {Np : SNP} {No : SNO} {Nx : SNX} {Nf : SNF} {Na : SNA} {Nh : SNH} {Nq : SNQ} {Nj : SNJ} {M0 : SMT} {M1 : SMT} : (m_cw ad ca ky ty rt Ni Np No Nx Nf Na Nh Nq Nj M0 M1)[47]? = some (ad 47, .inl (ca 45, 80, .inl (MT_left M0))) := rfl
theorem mw_48 {ad : Nat → Nat} {ca : Nat → ClassId} {ky ty : Nat → Option Nat} {rt : Nat} {Ni : SNI} {Np : SNP} {No : SNO} {Nx : SNX} {Nf : SNF} {Na : SNA} {Nh : SNH} {Nq : SNQ} {Nj : SNJ} {M0 : SMT} {M1 : SMT} : (m_cw ad ca ky ty rt Ni Np No Nx Nf Na Nh Nq Nj M0 M1)[48]? = some (ad 48, .inr (1, [.ref (ad 49), .ref (ad 50), .ref (ad 51), .ref (ad 52), .ref (ad 53), .ref (ad 54), .ref (ad 55), .ref (ad 56), .ref (ad 57), .ref (ad 58), .ref (ad 59), .ref (ad 60), .ref (ad 61), .int (MT_values M1), .int (MT_letters M1), .int (MT_at M1), .int (MT_wrong M1), .int (MT_used M1), .int (MT_written M1), .ref (ad 62)])) := rfl
theorem mw_49 {ad : Nat → Nat} {ca : Nat → ClassId} {ky ty : Nat → Option Nat} {rt : Nat} {Ni : SNI} {Np : SNP} {No : SNO} {Nx : SNX} {Nf : SNF} {Na : SNA} {Nh : SNH} {Nq : SNQ} {Nj : SNJ} {M0 : SMT} {M1 : SMT} : (m_cw ad ca ky ty rt Ni Np No Nx Nf Na Nh Nq Nj M0 M1)[49]? = some (ad 49, .inl (ca 46, 8196, .inl (MT_text M1))) := rfl
theorem mw_50 {ad : Nat → Nat} {ca : Nat → ClassId} {ky ty : Nat → Option Nat} {rt : Nat} {Ni : SNI} {Np : SNP} {No : SNO} {Nx : SNX} {Nf : SNF} {Na : SNA} {Nh : SNH} {Nq : SNQ} {Nj : SNJ} {M0 : SMT} {M1 : SMT} : (m_cw ad ca ky ty rt Ni Np No Nx Nf Na Nh Nq Nj M0 M1)[50]? = some (ad 50, .inl (ca 47, 1000, .inl (MT_kind M1))) := rfl
theorem mw_51 {ad : Nat → Nat} {ca : Nat → ClassId} {ky ty : Nat → Option Nat} {rt : Nat} {Ni : SNI} {Np : SNP} {No : SNO} {Nx : SNX} {Nf : SNF} {Na : SNA} {Nh : SNH} {Nq : SNQ} {Nj : SNJ} {M0 : SMT} {M1 : SMT} : (m_cw ad ca ky ty rt Ni Np No Nx Nf Na Nh Nq Nj M0 M1)[51]? = some (ad 51, .inl (ca 48, 1000, .inl (MT_place M1))) := rfl
theorem mw_52 {ad : Nat → Nat} {ca : Nat → ClassId} {ky ty : Nat → Option Nat} {rt : Nat} {Ni : SNI} {Np : SNP} {No : SNO} {Nx : SNX} {Nf : SNF} {Na : SNA} {Nh : SNH} {Nq : SNQ} {Nj : SNJ} {M0 : SMT} {M1 : SMT} : (m_cw ad ca ky ty rt Ni Np No Nx Nf Na Nh Nq Nj M0 M1)[52]? = some (ad 52, .inl (ca 49, 1000, .inl (MT_many M1))) := rfl
theorem mw_53 {ad : Nat → Nat} {ca : Nat → ClassId} {ky ty : Nat → Option Nat} {rt : Nat} {Ni : SNI} {Np : SNP} {No : SNO} {Nx : SNX} {Nf : SNF} {Na : SNA} {Nh : SNH} {Nq : SNQ} {Nj : SNJ} {M0 : SMT} {M1 : SMT} : (m_cw ad ca ky ty rt Ni Np No Nx Nf Na Nh Nq Nj M0 M1)[53]? = some (ad 53, .inl (ca 50, 1000, .inl (MT_parent M1))) := rfl
theorem mw_54 {ad : Nat → Nat} {ca : Nat → ClassId} {ky ty : Nat → Option Nat} {rt : Nat} {Ni : SNI} {Np : SNP} {No : SNO} {Nx : SNX} {Nf : SNF} {Na : SNA} {Nh : SNH} {Nq : SNQ} {Nj : SNJ} {M0 : SMT} {M1 : SMT} : (m_cw ad ca ky ty rt Ni Np No Nx Nf Na Nh Nq Nj M0 M1)[54]? = some (ad 54, .inl (ca 51, 1000, .inl (MT_power M1))) := rfl
theorem mw_55 {ad : Nat → Nat} {ca : Nat → ClassId} {ky ty : Nat → Option Nat} {rt : Nat} {Ni : SNI} {Np : SNP} {No : SNO} {Nx : SNX} {Nf : SNF} {Na : SNA} {Nh : SNH} {Nq : SNQ} {Nj : SNJ} {M0 : SMT} {M1 : SMT} : (m_cw ad ca ky ty rt Ni Np No Nx Nf Na Nh Nq Nj M0 M1)[55]? = some (ad 55, .inl (ca 52, 1000, .inl (MT_first M1))) := rfl
theorem mw_56 {ad : Nat → Nat} {ca : Nat → ClassId} {ky ty : Nat → Option Nat} {rt : Nat} {Ni : SNI} {Np : SNP} {No : SNO} {Nx : SNX} {Nf : SNF} {Na : SNA} {Nh : SNH} {Nq : SNQ} {Nj : SNJ} {M0 : SMT} {M1 : SMT} : (m_cw ad ca ky ty rt Ni Np No Nx Nf Na Nh Nq Nj M0 M1)[56]? = some (ad 56, .inl (ca 53, 1000, .inl (MT_next M1))) := rfl
theorem mw_57 {ad : Nat → Nat} {ca : Nat → ClassId} {ky ty : Nat → Option Nat} {rt : Nat} {Ni : SNI} {Np : SNP} {No : SNO} {Nx : SNX} {Nf : SNF} {Na : SNA} {Nh : SNH} {Nq : SNQ} {Nj : SNJ} {M0 : SMT} {M1 : SMT} : (m_cw ad ca ky ty rt Ni Np No Nx Nf Na Nh Nq Nj M0 M1)[57]? = some (ad 57, .inl (ca 54, 1000, .inl (MT_name M1))) := rfl
theorem mw_58 {ad : Nat → Nat} {ca : Nat → ClassId} {ky ty : Nat → Option Nat} {rt : Nat} {Ni : SNI} {Np : SNP} {No : SNO} {Nx : SNX} {Nf : SNF} {Na : SNA} {Nh : SNH} {Nq : SNQ} {Nj : SNJ} {M0 : SMT} {M1 : SMT} : (m_cw ad ca ky ty rt Ni Np No Nx Nf Na Nh Nq Nj M0 M1)[58]? = some (ad 58, .inl (ca 55, 1000, .inl (MT_from M1))) := rfl
theorem mw_59 {ad : Nat → Nat} {ca : Nat → ClassId} {ky ty : Nat → Option Nat} {rt : Nat} {Ni : SNI} {Np : SNP} {No : SNO} {Nx : SNX} {Nf : SNF} {Na : SNA} {Nh : SNH} {Nq : SNQ} {Nj : SNJ} {M0 : SMT} {M1 : SMT} : (m_cw ad ca ky ty rt Ni Np No Nx Nf Na Nh Nq Nj M0 M1)[59]? = some (ad 59, .inl (ca 56, 4000, .inl (MT_characters M1))) := rfl
theorem mw_60 {ad : Nat → Nat} {ca : Nat → ClassId} {ky ty : Nat → Option Nat} {rt : Nat} {Ni : SNI} {Np : SNP} {No : SNO} {Nx : SNX} {Nf : SNF} {Na : SNA} {Nh : SNH} {Nq : SNQ} {Nj : SNJ} {M0 : SMT} {M1 : SMT} : (m_cw ad ca ky ty rt Ni Np No Nx Nf Na Nh Nq Nj M0 M1)[60]? = some (ad 60, .inl (ca 57, 8192, .inl (MT_digits M1))) := rfl
theorem mw_61 {ad : Nat → Nat} {ca : Nat → ClassId} {ky ty : Nat → Option Nat} {rt : Nat} {Ni : SNI} {Np : SNP} {No : SNO} {Nx : SNX} {Nf : SNF} {Na : SNA} {Nh : SNH} {Nq : SNQ} {Nj : SNJ} {M0 : SMT} {M1 : SMT} : (m_cw ad ca ky ty rt Ni Np No Nx Nf Na Nh Nq Nj M0 M1)[61]? = some (ad 61, .inl (ca 58, 1000, .inl (MT_minus M1))) := rfl
theorem mw_62 {ad : Nat → Nat} {ca : Nat → ClassId} {ky ty : Nat → Option Nat} {rt : Nat} {Ni : SNI} {Np : SNP} {No : SNO} {Nx : SNX} {Nf : SNF} {Na : SNA} {Nh : SNH} {Nq : SNQ} {Nj : SNJ} {M0 : SMT} {M1 : SMT} : (m_cw ad ca ky ty rt Ni Np No Nx Nf Na Nh Nq Nj M0 M1)[62]? = some (ad 62, .inl (ca 59, 80, .inl (MT_left M1))) := rfl
