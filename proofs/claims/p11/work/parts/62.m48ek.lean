def n_L : List Cond := flatC narrow_1
abbrev n_tmL : List (String × Nat) := [("SchemaJudge", 75), ("SchemaJudge", 88), ("SchemaJudge$Reader", 63), ("SchemaJudge$Reader", 69), ("SchemaJudge$Reader", 71), ("SchemaJudge", 99), ("SchemaJudge", 107), ("SchemaJudge$Pattern", 90), ("SchemaJudge$Pattern", 85), ("SchemaJudge$Pattern", 88), ("SchemaJudge$Pattern", 60), ("SchemaJudge$Checker", 174), ("SchemaJudge$Checker", 176), ("SchemaJudge$Checker", 178), ("SchemaJudge$Checker", 180), ("SchemaJudge$Checker", 182), ("SchemaJudge$Checker", 184), ("SchemaJudge", 119), ("SchemaJudge", 136), ("SchemaJudge", 142), ("SchemaJudge", 148), ("SchemaJudge", 154), ("SchemaJudge", 176), ("SchemaJudge", 185), ("SchemaJudge", 196), ("SchemaJudgeModel", 83), ("SchemaJudgeModel", 85), ("SchemaJudgeModel", 87), ("SchemaJudgeModel", 88), ("SchemaJudgeModel", 90), ("SchemaJudgeModel", 92), ("SchemaJudgeModel", 94), ("SchemaJudgeModel", 96), ("SchemaJudgeModel", 98), ("SchemaJudgeModel", 100), ("SchemaJudgeModel", 102), ("SchemaJudgeModel", 104), ("SchemaJudgeModel", 106), ("SchemaJudgeModel", 108), ("SchemaJudgeModel", 110), ("SchemaJudgeModel", 112), ("SchemaJudgeModel", 114), ("SchemaJudgeModel", 116), ("SchemaJudgeModel", 118), ("SchemaJudgeModel", 120), ("SchemaJudgeModel", 122), ("SchemaJudgeModel", 124), ("SchemaJudgeModel", 126), ("SchemaJudgeModel", 128), ("SchemaJudgeModel", 130), ("SchemaJudgeModel", 132), ("SchemaJudgeModel", 134), ("SchemaJudgeModel", 136), ("SchemaJudgeModel", 138), ("SchemaJudgeModel", 140), ("SchemaJudgeModel", 142), ("SchemaJudgeModel", 144), ("SchemaJudgeModel", 146), ("SchemaJudgeModel", 148), ("SchemaJudgeModel", 150), ("SchemaJudgeModel", 152), ("SchemaJudgeModel", 154), ("SchemaJudgeModel", 156), ("SchemaJudgeModel", 158), ("SchemaJudgeModel", 160), ("SchemaJudgeModel", 162), ("SchemaJudgeModel", 164), ("SchemaJudgeModel", 166), ("SchemaJudgeModel", 168), ("SchemaJudge$Keyword", 184)]
def n_tm (i : Nat) : Term := Term.string (n_tmL.getD i ("", 0)).1 (n_tmL.getD i ("", 0)).2
def n_sub : List Cond → List Cond → Bool
  | [], _ => true
  | _ :: _, [] => false
  | a :: as, b :: bs => if a = b then n_sub as bs else n_sub (a :: as) bs
theorem n_sub_mem : ∀ (L fam : List Cond), n_sub fam L = true → ∀ c ∈ fam, c ∈ L := by
  intro L
  induction L with
  | nil =>
    intro fam h c hc
    cases fam with
    | nil => cases hc
    | cons a as => simp [n_sub] at h
  | cons b bs ih =>
    intro fam h c hc
    cases fam with
    | nil => cases hc
    | cons a as =>
      rw [n_sub] at h
      by_cases hab : a = b
      · rw [if_pos hab] at h
        rcases List.mem_cons.mp hc with rfl | hc
        · rw [hab]; exact List.mem_cons_self
        · exact List.mem_cons_of_mem _ (ih as h c hc)
      · rw [if_neg hab] at h
        exact List.mem_cons_of_mem _ (ih (a :: as) h c hc)
abbrev n_wL : List (String × Nat) := [("SchemaJudge$Keyword", 184), ("SchemaJudge$Keyword", 190), ("SchemaJudge$Keyword", 193), ("SchemaJudge$Keyword", 196), ("SchemaJudge$Keyword", 199), ("SchemaJudge$Keyword", 202), ("SchemaJudge$Keyword", 205), ("SchemaJudge$Keyword", 208), ("SchemaJudge$Keyword", 211), ("SchemaJudge$Keyword", 214), ("SchemaJudge$Keyword", 217), ("SchemaJudge$Keyword", 220), ("SchemaJudge$Keyword", 223), ("SchemaJudge$Keyword", 226), ("SchemaJudge$Keyword", 229), ("SchemaJudge$Keyword", 232), ("SchemaJudge$Keyword", 235), ("SchemaJudge$Keyword", 238), ("SchemaJudge$Keyword", 241), ("SchemaJudge$Keyword", 244), ("SchemaJudge$Keyword", 247), ("SchemaJudge$Keyword", 250), ("SchemaJudge$Keyword", 253), ("SchemaJudge$Keyword", 256), ("SchemaJudge$Keyword", 259), ("SchemaJudge$Keyword", 262), ("SchemaJudge$Keyword", 265), ("SchemaJudge$Keyword", 268), ("SchemaJudge$Keyword", 271), ("SchemaJudge$Keyword", 274), ("SchemaJudge$Keyword", 277), ("SchemaJudge$Keyword", 280), ("SchemaJudge$Keyword", 283), ("SchemaJudge$Keyword", 286), ("SchemaJudge$Keyword", 289), ("SchemaJudge$Keyword", 292), ("SchemaJudge$Keyword", 295), ("SchemaJudge$Keyword", 298), ("SchemaJudge$Keyword", 301), ("SchemaJudge$Keyword", 304), ("SchemaJudge$Keyword", 307), ("SchemaJudge$Keyword", 310), ("SchemaJudge$Keyword", 313), ("SchemaJudge$Keyword", 316), ("SchemaJudge$Keyword", 319)]
abbrev n_ko : List Nat := [0, 17, 34, 33, 9, 10, 3, 4, 2, 1, 6, 14, 16, 8, 29, 28, 12, 13, 5, 7, 11, 15, 18, 19, 20, 21, 22, 23, 24, 25, 26, 27, 30, 31, 32, 35, 36, 37, 38, 39, 40, 41, 42, 43, 44]
abbrev n_so : List Nat := [0, 1, 2, 3, 4, 5, 6, 7, 8, 9, 10, 11, 12, 13, 14, 15, 16, 17, 18, 19, 20, 21, 22, 23, 24, 25, 26, 27, 28, 29, 30, 31, 32, 33, 34, 35, 36, 37, 38, 39, 40, 41, 42, 43, 44, 45, 46, 47, 48, 49, 50, 51, 52, 53, 54, 55, 56, 57, 58, 59, 60, 61, 62, 63, 64, 65, 66, 67, 68, 69]
def n_kb (i : Nat) : List Cond := [Cond.exactly (.static "SchemaJudge$Keyword" (o_kn.getD i "") "LSchemaJudge$Keyword;") "SchemaJudge$Keyword", Cond.eq (.field (.static "SchemaJudge$Keyword" (o_kn.getD i "") "LSchemaJudge$Keyword;") "java/lang/Enum" "ordinal" "I") (.int (o_kordinal.getD i 0)), Cond.eq (.field (.static "SchemaJudge$Keyword" (o_kn.getD i "") "LSchemaJudge$Keyword;") "SchemaJudge$Keyword" "word" "Ljava/lang/String;") (Term.string (n_wL.getD i ("", 0)).1 (n_wL.getD i ("", 0)).2), Cond.eq (.field (.static "SchemaJudge$Keyword" (o_kn.getD i "") "LSchemaJudge$Keyword;") "SchemaJudge$Keyword" "form" "I") (.int (o_kform.getD i 0)), Cond.eq (.field (.static "SchemaJudge$Keyword" (o_kn.getD i "") "LSchemaJudge$Keyword;") "SchemaJudge$Keyword" "kind" "I") (.int (o_kkind.getD i 0)), Cond.eq (.field (.static "SchemaJudge$Keyword" (o_kn.getD i "") "LSchemaJudge$Keyword;") "SchemaJudge$Keyword" "reach" "I") (.int (o_kreach.getD i 0))]
def n_sb (i : Nat) : List Cond := [Cond.exactly (n_tm i) "java/lang/String", Cond.eq (.field (n_tm i) "java/lang/String" "coder" "B") (.int 0), Cond.arrayOf (.field (n_tm i) "java/lang/String" "value" "[B") .byte, Cond.eq (.length (.field (n_tm i) "java/lang/String" "value" "[B")) (.int (Int32.ofNat (o_slen.getD i 0)))] ++ (List.range (o_slen.getD i 0)).map (fun j => Cond.eq (.elem (.field (n_tm i) "java/lang/String" "value" "[B") (.int (Int32.ofNat j))) (.int ((o_sbyt.getD i []).getD j 0)))
theorem n_pk : n_sub (n_ko.flatMap n_kb) n_L = true := by decide +kernel
theorem n_ps : n_sub (n_so.flatMap n_sb) n_L = true := by decide +kernel
theorem n_pa : n_sub ((List.range 45).map (fun i => Cond.eq (.elem (.static "SchemaJudge$Keyword" "ALL" "[LSchemaJudge$Keyword;") (.int (Int32.ofNat i))) (.static "SchemaJudge$Keyword" (o_kn.getD i "") "LSchemaJudge$Keyword;"))) n_L = true := by decide +kernel
theorem n_pw : n_sub ((List.range 45).map (fun i => Cond.eq (.elem (.static "SchemaJudge$1" "$SwitchMap$SchemaJudge$Keyword" "[I") (.int (Int32.ofNat i))) (.int (sw_Keyword i)))) n_L = true := by decide +kernel
theorem n_ki : ∀ i, i < 45 → i ∈ n_ko := by decide +kernel
theorem n_si : ∀ i, i < o_ns → i ∈ n_so := by decide +kernel
theorem n_km {i : Nat} (hi : i < 45) {c : Cond} (h : c ∈ n_kb i) : c ∈ n_L := n_sub_mem _ _ n_pk _ (List.mem_flatMap.mpr ⟨i, n_ki i hi, h⟩)
theorem n_sm {i : Nat} (hi : i < o_ns) {c : Cond} (h : c ∈ n_sb i) : c ∈ n_L := n_sub_mem _ _ n_ps _ (List.mem_flatMap.mpr ⟨i, n_si i hi, h⟩)
theorem n_h1 : ∀ i, i < o_ns → Cond.exactly (n_tm i) "java/lang/String" ∈ n_L := fun i hi => n_sm hi (List.mem_append_left _ (List.mem_of_getElem? (i := 0) rfl))
theorem n_h2 : ∀ i, i < o_ns → Cond.eq (.field (n_tm i) "java/lang/String" "coder" "B") (.int 0) ∈ n_L := fun i hi => n_sm hi (List.mem_append_left _ (List.mem_of_getElem? (i := 1) rfl))
theorem n_h3 : ∀ i, i < o_ns → Cond.arrayOf (.field (n_tm i) "java/lang/String" "value" "[B") .byte ∈ n_L := fun i hi => n_sm hi (List.mem_append_left _ (List.mem_of_getElem? (i := 2) rfl))
theorem n_h4 : ∀ i, i < o_ns → Cond.eq (.length (.field (n_tm i) "java/lang/String" "value" "[B")) (.int (Int32.ofNat (o_slen.getD i 0))) ∈ n_L := fun i hi => n_sm hi (List.mem_append_left _ (List.mem_of_getElem? (i := 3) rfl))
theorem n_h5 : ∀ i, i < o_ns → ∀ j, j < o_slen.getD i 0 → Cond.eq (.elem (.field (n_tm i) "java/lang/String" "value" "[B") (.int (Int32.ofNat j))) (.int ((o_sbyt.getD i []).getD j 0)) ∈ n_L := fun i hi j hj => n_sm hi (List.mem_append_right _ (List.mem_map.mpr ⟨j, List.mem_range.mpr hj, rfl⟩))
theorem n_h6 : ∀ i, i < o_ns → o_slen.getD i 0 < 2 ^ 31 := by decide +kernel
theorem n_h7 : ∀ i, i < o_ns → ∀ j, j < o_ns → i ≠ j → o_slen.getD i 0 ≠ o_slen.getD j 0 ∨ ∃ k, k < o_slen.getD i 0 ∧ (o_sbyt.getD i []).getD k 0 ≠ (o_sbyt.getD j []).getD k 0 := by decide +kernel
theorem n_h8 : ∀ i, i < 45 → Cond.exactly (.static "SchemaJudge$Keyword" (o_kn.getD i "") "LSchemaJudge$Keyword;") "SchemaJudge$Keyword" ∈ n_L := fun i hi => n_km hi (List.mem_of_getElem? (i := 0) rfl)
theorem n_g0 : ∀ i, i < 45 → Cond.eq (.field (.static "SchemaJudge$Keyword" (o_kn.getD i "") "LSchemaJudge$Keyword;") "java/lang/Enum" "ordinal" "I") (.int (o_kordinal.getD i 0)) ∈ n_L := fun i hi => n_km hi (List.mem_of_getElem? (i := 1) rfl)
theorem n_g1 : ∀ i, i < 45 → Cond.eq (.field (.static "SchemaJudge$Keyword" (o_kn.getD i "") "LSchemaJudge$Keyword;") "SchemaJudge$Keyword" "form" "I") (.int (o_kform.getD i 0)) ∈ n_L := fun i hi => n_km hi (List.mem_of_getElem? (i := 3) rfl)
theorem n_g2 : ∀ i, i < 45 → Cond.eq (.field (.static "SchemaJudge$Keyword" (o_kn.getD i "") "LSchemaJudge$Keyword;") "SchemaJudge$Keyword" "kind" "I") (.int (o_kkind.getD i 0)) ∈ n_L := fun i hi => n_km hi (List.mem_of_getElem? (i := 4) rfl)
theorem n_g3 : ∀ i, i < 45 → Cond.eq (.field (.static "SchemaJudge$Keyword" (o_kn.getD i "") "LSchemaJudge$Keyword;") "SchemaJudge$Keyword" "reach" "I") (.int (o_kreach.getD i 0)) ∈ n_L := fun i hi => n_km hi (List.mem_of_getElem? (i := 5) rfl)
theorem n_h9 : ∀ i, i < 45 → Cond.eq (.field (.static "SchemaJudge$Keyword" (o_kn.getD i "") "LSchemaJudge$Keyword;") "SchemaJudge$Keyword" "word" "Ljava/lang/String;") (Term.string (n_wL.getD i ("", 0)).1 (n_wL.getD i ("", 0)).2) ∈ n_L := fun i hi => n_km hi (List.mem_of_getElem? (i := 2) rfl)
theorem n_ha : ∀ i, i < 45 → Cond.eq (.elem (.static "SchemaJudge$Keyword" "ALL" "[LSchemaJudge$Keyword;") (.int (Int32.ofNat i))) (.static "SchemaJudge$Keyword" (o_kn.getD i "") "LSchemaJudge$Keyword;") ∈ n_L := fun i hi => n_sub_mem _ _ n_pa _ (List.mem_map.mpr ⟨i, List.mem_range.mpr hi, rfl⟩)
theorem n_hs : ∀ i, i < 45 → Cond.eq (.elem (.static "SchemaJudge$1" "$SwitchMap$SchemaJudge$Keyword" "[I") (.int (Int32.ofNat i))) (.int (sw_Keyword i)) ∈ n_L := fun i hi => n_sub_mem _ _ n_pw _ (List.mem_map.mpr ⟨i, List.mem_range.mpr hi, rfl⟩)
theorem n_ho : ∀ i, i < 45 → ∀ j, j < 45 → o_kordinal.getD i 0 = o_kordinal.getD j 0 → i = j := by decide +kernel
theorem n_lay : ∀ i, i < 45 → Cond.laysStatic "SchemaJudge$Keyword" (o_kn.getD i "") "LSchemaJudge$Keyword;" ∈ lw_tbl := by
  intro i hi
  match i, hi with
  | 0, _ => exact (o_tb4 _ (List.mem_of_getElem? (i := 91) rfl))
  | 1, _ => exact (o_tb6 _ (List.mem_of_getElem? (i := 52) rfl))
  | 2, _ => exact (o_tb6 _ (List.mem_of_getElem? (i := 42) rfl))
  | 3, _ => exact (o_tb6 _ (List.mem_of_getElem? (i := 38) rfl))
  | 4, _ => exact (o_tb6 _ (List.mem_of_getElem? (i := 40) rfl))
  | 5, _ => exact (o_tb10 _ (List.mem_of_getElem? (i := 110) rfl))
  | 6, _ => exact (o_tb6 _ (List.mem_of_getElem? (i := 55) rfl))
  | 7, _ => exact (o_tb10 _ (List.mem_of_getElem? (i := 111) rfl))
  | 8, _ => exact (o_tb6 _ (List.mem_of_getElem? (i := 127) rfl))
  | 9, _ => exact (o_tb6 _ (List.mem_of_getElem? (i := 34) rfl))
  | 10, _ => exact (o_tb6 _ (List.mem_of_getElem? (i := 36) rfl))
  | 11, _ => exact (o_tb10 _ (List.mem_of_getElem? (i := 112) rfl))
  | 12, _ => exact (o_tb6 _ (List.mem_of_getElem? (i := 149) rfl))
  | 13, _ => exact (o_tb6 _ (List.mem_of_getElem? (i := 151) rfl))
  | 14, _ => exact (o_tb6 _ (List.mem_of_getElem? (i := 72) rfl))
  | 15, _ => exact (o_tb10 _ (List.mem_of_getElem? (i := 113) rfl))
  | 16, _ => exact (o_tb6 _ (List.mem_of_getElem? (i := 113) rfl))
  | 17, _ => exact (o_tb4 _ (List.mem_of_getElem? (i := 103) rfl))
  | 18, _ => exact (o_tb10 _ (List.mem_of_getElem? (i := 114) rfl))
  | 19, _ => exact (o_tb10 _ (List.mem_of_getElem? (i := 115) rfl))
  | 20, _ => exact (o_tb10 _ (List.mem_of_getElem? (i := 116) rfl))
  | 21, _ => exact (o_tb10 _ (List.mem_of_getElem? (i := 117) rfl))
  | 22, _ => exact (o_tb10 _ (List.mem_of_getElem? (i := 118) rfl))
  | 23, _ => exact (o_tb10 _ (List.mem_of_getElem? (i := 119) rfl))
  | 24, _ => exact (o_tb10 _ (List.mem_of_getElem? (i := 120) rfl))
  | 25, _ => exact (o_tb10 _ (List.mem_of_getElem? (i := 121) rfl))
  | 26, _ => exact (o_tb10 _ (List.mem_of_getElem? (i := 122) rfl))
  | 27, _ => exact (o_tb10 _ (List.mem_of_getElem? (i := 123) rfl))
  | 28, _ => exact (o_tb6 _ (List.mem_of_getElem? (i := 142) rfl))
  | 29, _ => exact (o_tb6 _ (List.mem_of_getElem? (i := 140) rfl))
  | 30, _ => exact (o_tb10 _ (List.mem_of_getElem? (i := 124) rfl))
  | 31, _ => exact (o_tb10 _ (List.mem_of_getElem? (i := 125) rfl))
  | 32, _ => exact (o_tb10 _ (List.mem_of_getElem? (i := 126) rfl))
  | 33, _ => exact (o_tb5 _ (List.mem_of_getElem? (i := 140) rfl))
  | 34, _ => exact (o_tb5 _ (List.mem_of_getElem? (i := 127) rfl))
  | 35, _ => exact (o_tb10 _ (List.mem_of_getElem? (i := 127) rfl))
  | 36, _ => exact (o_tb10 _ (List.mem_of_getElem? (i := 128) rfl))
  | 37, _ => exact (o_tb10 _ (List.mem_of_getElem? (i := 129) rfl))
  | 38, _ => exact (o_tb10 _ (List.mem_of_getElem? (i := 130) rfl))
  | 39, _ => exact (o_tb10 _ (List.mem_of_getElem? (i := 131) rfl))
  | 40, _ => exact (o_tb10 _ (List.mem_of_getElem? (i := 132) rfl))
  | 41, _ => exact (o_tb10 _ (List.mem_of_getElem? (i := 133) rfl))
  | 42, _ => exact (o_tb10 _ (List.mem_of_getElem? (i := 134) rfl))
  | 43, _ => exact (o_tb10 _ (List.mem_of_getElem? (i := 135) rfl))
  | 44, _ => exact (o_tb10 _ (List.mem_of_getElem? (i := 136) rfl))
  | n + 45, h => exact absurd h (by omega)
theorem o_nws_kind : ∀ w ∈ o_nws, (∃ (a : String) (i : Nat) (x : MethodName) (h : String), w = .methodLinkNest a i x h) ∨ (∃ (a : String) (i : Nat) (b n d h : String), w = .fieldLinkNest a i b n d h) := List.forall_mem_cons.mpr ⟨Or.inl ⟨_, _, _, _, rfl⟩, List.forall_mem_cons.mpr ⟨Or.inl ⟨_, _, _, _, rfl⟩, List.forall_mem_cons.mpr ⟨Or.inl ⟨_, _, _, _, rfl⟩, List.forall_mem_cons.mpr ⟨Or.inl ⟨_, _, _, _, rfl⟩, List.forall_mem_cons.mpr ⟨Or.inl ⟨_, _, _, _, rfl⟩, List.forall_mem_cons.mpr ⟨Or.inl ⟨_, _, _, _, rfl⟩, List.forall_mem_cons.mpr ⟨Or.inl ⟨_, _, _, _, rfl⟩, List.forall_mem_cons.mpr ⟨Or.inl ⟨_, _, _, _, rfl⟩, List.forall_mem_cons.mpr ⟨Or.inl ⟨_, _, _, _, rfl⟩, List.forall_mem_cons.mpr ⟨Or.inl ⟨_, _, _, _, rfl⟩, List.forall_mem_cons.mpr ⟨Or.inl ⟨_, _, _, _, rfl⟩, List.forall_mem_cons.mpr ⟨Or.inl ⟨_, _, _, _, rfl⟩, List.forall_mem_cons.mpr ⟨Or.inl ⟨_, _, _, _, rfl⟩, List.forall_mem_cons.mpr ⟨Or.inl ⟨_, _, _, _, rfl⟩, List.forall_mem_cons.mpr ⟨Or.inl ⟨_, _, _, _, rfl⟩, List.forall_mem_cons.mpr ⟨Or.inl ⟨_, _, _, _, rfl⟩, List.forall_mem_cons.mpr ⟨Or.inl ⟨_, _, _, _, rfl⟩, List.forall_mem_cons.mpr ⟨Or.inl ⟨_, _, _, _, rfl⟩, List.forall_mem_cons.mpr ⟨Or.inl ⟨_, _, _, _, rfl⟩, List.forall_mem_cons.mpr ⟨Or.inl ⟨_, _, _, _, rfl⟩, List.forall_mem_cons.mpr ⟨Or.inl ⟨_, _, _, _, rfl⟩, List.forall_mem_cons.mpr ⟨Or.inl ⟨_, _, _, _, rfl⟩, List.forall_mem_cons.mpr ⟨Or.inr ⟨_, _, _, _, _, _, rfl⟩, List.forall_mem_cons.mpr ⟨Or.inr ⟨_, _, _, _, _, _, rfl⟩, List.forall_mem_cons.mpr ⟨Or.inr ⟨_, _, _, _, _, _, rfl⟩, List.forall_mem_cons.mpr ⟨Or.inr ⟨_, _, _, _, _, _, rfl⟩, fun _ h => absurd h List.not_mem_nil⟩⟩⟩⟩⟩⟩⟩⟩⟩⟩⟩⟩⟩⟩⟩⟩⟩⟩⟩⟩⟩⟩⟩⟩⟩⟩
/-! What nobody writes, as one predicate -/
def o_E (kd sd vd xd : Nat → Nat) : (Nat → Prop) → State → Heap → Prop := fun A U H =>
  (∀ w ∈ o_nws, va_Nw w U) ∧ va_En "SchemaJudge$Keyword" "LSchemaJudge$Keyword;" o_kn o_kF kd A U H ∧
  (va_Z "SchemaJudge$Keyword" "ALL" "[LSchemaJudge$Keyword;" (.ref (xd 0)) A U H ∧ va_T (.object "SchemaJudge$Keyword") (xd 0) 45 (fun j => .ref (kd j)) A U H) ∧
  (va_Z "SchemaJudge$1" "$SwitchMap$SchemaJudge$Keyword" "[I" (.ref (xd 1)) A U H ∧ va_T .int (xd 1) 45 (fun j => .int (sw_Keyword j)) A U H) ∧
  (∀ q ∈ o_srs, vk_R q.1 q.2.1 q.2.2.1 (sd q.2.2.2) U) ∧ vk_S o_ns o_slen o_sbyt sd vd A U H ∧
  va_Ef 45 "SchemaJudge$Keyword" "word" "Ljava/lang/String;" (fun i => .ref (sd (kw_str i))) kd A U H ∧
  va_Z "java/lang/String" "COMPACT_STRINGS" "Z" (.int 1) A U H ∧ va_Zq "jdk/internal/util/Preconditions" "SIOOBE_FORMATTER" "Ljava/util/function/BiFunction;" A U H ∧
  o_TS1 "UNASSIGNED_STACK" Bundle.steD A U H ∧ o_TS1 "SUPPRESSED_SENTINEL" Bundle.listD A U H ∧ o_NAs U ∧ va_AO "java/lang/String" U
theorem o_E_ek (kd sd vd xd : Nat → Nat) : o_Ek (o_E kd sd vd xd) := by
  intro A B u U H H1 hW hBA hk h
  obtain ⟨h1, h2, ⟨h3, h3'⟩, ⟨h4, h4'⟩, h5, h6, h7, h8, h9, h10, h11, h13, h12⟩ := h
  refine ⟨fun w hw => ?_, ((h2.moved hW.alike).kept hk).narrow hBA, ⟨((h3.moved hW.alike).kept hk).narrow hBA, ((h3'.moved hW.alike).kept hk).narrow hBA⟩, ⟨((h4.moved hW.alike).kept hk).narrow hBA, ((h4'.moved hW.alike).kept hk).narrow hBA⟩,
    fun q hq => (h5 q hq).warm hW, ((h6.moved hW.alike).kept hk).narrow hBA, ((h7.moved hW.alike).kept hk).narrow hBA, ((h8.moved hW.alike).kept hk).narrow hBA, ((h9.moved hW.alike).kept hk).narrow hBA, h10.ride hW hBA hk, h11.ride hW hBA hk, ⟨h13.1.moved hW.alike, h13.2.1.moved hW.alike, h13.2.2.moved hW.alike⟩, h12.moved hW.alike⟩
  rcases o_nws_kind w hw with ⟨a, i, x, h, rfl⟩ | ⟨a, i, b, n, d, h, rfl⟩
  · exact va_Nw.warmM hW (h1 _ hw)
  · exact va_Nw.warmF hW (h1 _ hw)
theorem o_E_ok (kd sd vd xd : Nat → Nat) : o_EK (o_E kd sd vd xd) kd sd vd xd :=
  ⟨o_E_ek kd sd vd xd, fun _ _ _ h => h.1, fun _ _ _ h => h.2.1, fun _ _ _ h => h.2.2.1, fun _ _ _ h => h.2.2.2.1, fun _ _ _ h => h.2.2.2.2.1, fun _ _ _ h => h.2.2.2.2.2.1, fun _ _ _ h => h.2.2.2.2.2.2.1, fun _ _ _ h => h.2.2.2.2.2.2.2.1, fun _ _ _ h => h.2.2.2.2.2.2.2.2.1, trivial⟩
theorem o_E_et (kd sd vd xd : Nat → Nat) : o_ET (o_E kd sd vd xd) := fun _ _ _ h => ⟨h.2.2.2.2.2.2.2.2.2.1, h.2.2.2.2.2.2.2.2.2.2.1, h.2.2.2.2.2.2.2.2.2.2.2.1⟩
theorem o_E_ao (kd sd vd xd : Nat → Nat) : ∀ (A : Nat → Prop) (U : State) (H : Heap), o_E kd sd vd xd A U H → va_AO "java/lang/String" U := fun _ _ _ h => h.2.2.2.2.2.2.2.2.2.2.2.2

def n_X : List Cond := [Cond.isRef (.static "java/lang/Throwable" "UNASSIGNED_STACK" "[Ljava/lang/StackTraceElement;"), Cond.isRef (.static "java/lang/Throwable" "SUPPRESSED_SENTINEL" "Ljava/util/List;"), Cond.eq (.static "java/lang/String" "COMPACT_STRINGS" "Z") (.int 1), Cond.isRef (.static "jdk/internal/util/Preconditions" "SIOOBE_FORMATTER" "Ljava/util/function/BiFunction;"), Cond.arrayOf (.static "SchemaJudge$Keyword" "ALL" "[LSchemaJudge$Keyword;") (.object "SchemaJudge$Keyword"), Cond.eq (.length (.static "SchemaJudge$Keyword" "ALL" "[LSchemaJudge$Keyword;")) (.int (Int32.ofNat 45)), Cond.arrayOf (.static "SchemaJudge$1" "$SwitchMap$SchemaJudge$Keyword" "[I") .int, Cond.eq (.length (.static "SchemaJudge$1" "$SwitchMap$SchemaJudge$Keyword" "[I")) (.int (Int32.ofNat 45)), Cond.not (.castable "java/lang/IllegalArgumentException" "java/lang/IndexOutOfBoundsException"), Cond.not (.castable "java/lang/IndexOutOfBoundsException" "java/lang/IllegalArgumentException"), Cond.not (.castable "java/lang/UnsupportedOperationException" "java/lang/IllegalStateException"), Cond.eq (Term.string "SchemaJudge$Reader" 63) (Term.string "SchemaJudge$Checker" 168), Cond.eq (Term.string "SchemaJudge$Reader" 63) (Term.string "SchemaJudge$Judge" 283), Cond.eq (Term.string "SchemaJudge$Checker" 174) (Term.string "SchemaJudge$Judge" 289), Cond.eq (Term.string "SchemaJudge$Checker" 180) (Term.string "SchemaJudge$Judge" 291), Cond.eq (Term.string "SchemaJudge$Checker" 184) (Term.string "SchemaJudge$Judge" 296), Cond.eq (Term.string "SchemaJudge$Checker" 182) (Term.string "SchemaJudge$Judge" 298), Cond.eq (Term.string "SchemaJudge$Checker" 178) (Term.string "SchemaJudge$Judge" 300), Cond.eq (Term.string "SchemaJudge$Checker" 176) (Term.string "SchemaJudge$Judge" 302), Cond.eq (Term.string "SchemaJudge$Reader" 63) (Term.string "SchemaJudgeModel" 174), Cond.eq (Term.string "SchemaJudge$Checker" 174) (Term.string "SchemaJudgeModel" 176), Cond.eq (Term.string "SchemaJudge$Checker" 176) (Term.string "SchemaJudgeModel" 178), Cond.eq (Term.string "SchemaJudge$Checker" 178) (Term.string "SchemaJudgeModel" 180), Cond.eq (Term.string "SchemaJudge$Checker" 180) (Term.string "SchemaJudgeModel" 182), Cond.eq (Term.string "SchemaJudge$Checker" 182) (Term.string "SchemaJudgeModel" 184), Cond.eq (Term.string "SchemaJudge$Checker" 184) (Term.string "SchemaJudgeModel" 186), Cond.eq (Term.string "SchemaJudge$Reader" 63) (Term.string "SchemaJudgeModel$Text" 107), Cond.eq (Term.string "SchemaJudge$Reader" 71) (Term.string "SchemaJudgeModel$Text" 113), Cond.eq (Term.string "SchemaJudge$Reader" 69) (Term.string "SchemaJudgeModel$Text" 115), Cond.eq (Term.string "SchemaJudgeModel" 114) (Term.string "SchemaJudge$Keyword" 238), Cond.eq (Term.string "SchemaJudgeModel" 148) (Term.string "SchemaJudge$Keyword" 289), Cond.eq (Term.string "SchemaJudgeModel" 146) (Term.string "SchemaJudge$Keyword" 286), Cond.eq (Term.string "SchemaJudgeModel" 98) (Term.string "SchemaJudge$Keyword" 214), Cond.eq (Term.string "SchemaJudgeModel" 100) (Term.string "SchemaJudge$Keyword" 217), Cond.eq (Term.string "SchemaJudgeModel" 87) (Term.string "SchemaJudge$Keyword" 196), Cond.eq (Term.string "SchemaJudgeModel" 88) (Term.string "SchemaJudge$Keyword" 199), Cond.eq (Term.string "SchemaJudgeModel" 85) (Term.string "SchemaJudge$Keyword" 193), Cond.eq (Term.string "SchemaJudgeModel" 83) (Term.string "SchemaJudge$Keyword" 190), Cond.eq (Term.string "SchemaJudgeModel" 92) (Term.string "SchemaJudge$Keyword" 205), Cond.eq (Term.string "SchemaJudgeModel" 108) (Term.string "SchemaJudge$Keyword" 229), Cond.eq (Term.string "SchemaJudgeModel" 112) (Term.string "SchemaJudge$Keyword" 235), Cond.eq (Term.string "SchemaJudgeModel" 96) (Term.string "SchemaJudge$Keyword" 211), Cond.eq (Term.string "SchemaJudgeModel" 138) (Term.string "SchemaJudge$Keyword" 274), Cond.eq (Term.string "SchemaJudgeModel" 136) (Term.string "SchemaJudge$Keyword" 271), Cond.eq (Term.string "SchemaJudgeModel" 104) (Term.string "SchemaJudge$Keyword" 223), Cond.eq (Term.string "SchemaJudgeModel" 106) (Term.string "SchemaJudge$Keyword" 226), Cond.eq (Term.string "SchemaJudgeModel" 90) (Term.string "SchemaJudge$Keyword" 202), Cond.eq (Term.string "SchemaJudgeModel" 94) (Term.string "SchemaJudge$Keyword" 208), Cond.eq (Term.string "SchemaJudgeModel" 102) (Term.string "SchemaJudge$Keyword" 220), Cond.eq (Term.string "SchemaJudgeModel" 110) (Term.string "SchemaJudge$Keyword" 232), Cond.eq (Term.string "SchemaJudgeModel" 116) (Term.string "SchemaJudge$Keyword" 241), Cond.eq (Term.string "SchemaJudgeModel" 118) (Term.string "SchemaJudge$Keyword" 244), Cond.eq (Term.string "SchemaJudgeModel" 120) (Term.string "SchemaJudge$Keyword" 247), Cond.eq (Term.string "SchemaJudgeModel" 122) (Term.string "SchemaJudge$Keyword" 250), Cond.eq (Term.string "SchemaJudgeModel" 124) (Term.string "SchemaJudge$Keyword" 253), Cond.eq (Term.string "SchemaJudgeModel" 126) (Term.string "SchemaJudge$Keyword" 256), Cond.eq (Term.string "SchemaJudgeModel" 128) (Term.string "SchemaJudge$Keyword" 259), Cond.eq (Term.string "SchemaJudgeModel" 130) (Term.string "SchemaJudge$Keyword" 262), Cond.eq (Term.string "SchemaJudgeModel" 132) (Term.string "SchemaJudge$Keyword" 265), Cond.eq (Term.string "SchemaJudgeModel" 134) (Term.string "SchemaJudge$Keyword" 268), Cond.eq (Term.string "SchemaJudgeModel" 140) (Term.string "SchemaJudge$Keyword" 277), Cond.eq (Term.string "SchemaJudgeModel" 142) (Term.string "SchemaJudge$Keyword" 280), Cond.eq (Term.string "SchemaJudgeModel" 144) (Term.string "SchemaJudge$Keyword" 283), Cond.eq (Term.string "SchemaJudgeModel" 150) (Term.string "SchemaJudge$Keyword" 292), Cond.eq (Term.string "SchemaJudgeModel" 152) (Term.string "SchemaJudge$Keyword" 295), Cond.eq (Term.string "SchemaJudgeModel" 154) (Term.string "SchemaJudge$Keyword" 298), Cond.eq (Term.string "SchemaJudgeModel" 156) (Term.string "SchemaJudge$Keyword" 301), Cond.eq (Term.string "SchemaJudgeModel" 158) (Term.string "SchemaJudge$Keyword" 304), Cond.eq (Term.string "SchemaJudgeModel" 160) (Term.string "SchemaJudge$Keyword" 307), Cond.eq (Term.string "SchemaJudgeModel" 162) (Term.string "SchemaJudge$Keyword" 310), Cond.eq (Term.string "SchemaJudgeModel" 164) (Term.string "SchemaJudge$Keyword" 313), Cond.eq (Term.string "SchemaJudgeModel" 166) (Term.string "SchemaJudge$Keyword" 316), Cond.eq (Term.string "SchemaJudgeModel" 168) (Term.string "SchemaJudge$Keyword" 319)]
theorem n_px : n_sub n_X n_L = true := by decide +kernel
theorem o_nws_on : ∀ w ∈ o_nws, w.onTables = true := fun w hw => by
  rcases o_nws_kind w hw with ⟨a, i, x, h, rfl⟩ | ⟨a, i, b, n, d, h, rfl⟩ <;> rfl
theorem o_OF_one {o n d : String} {v v' : Value} {t : Nat} {A : Nat → Prop} {U : State} {H : Heap} (h : va_OF o n d v t A U H) (h' : va_OF o n d v' t A U H) : v = v' := by
  obtain ⟨cf, k, i, f, cell, a1, a2, a3, a4, a5, -⟩ := h
  obtain ⟨cf', k', i', f', cell', b1, b2, b3, b4, b5, -⟩ := h'
  rw [a1] at b1
  cases b1
  rw [a3] at b3
  cases b3
  rw [a5] at b5
  exact Option.some.inj b5
theorem o_Sof {args : Array Value} {s : State} {N : Nat} {tm : Nat → Term} {len : List Nat} {byt : List (List Int32)} {A : Nat → Prop} (hN : ∀ i : Nat, i < N → len.getD i 0 < 2 ^ 31) (hex : ∀ i : Nat, i < N → (Cond.exactly (tm i) "java/lang/String").before args s = true) (hco : ∀ i : Nat, i < N → (Cond.eq (.field (tm i) "java/lang/String" "coder" "B") (.int 0)).before args s = true)
    (har : ∀ i : Nat, i < N → (Cond.arrayOf (.field (tm i) "java/lang/String" "value" "[B") .byte).before args s = true) (hle : ∀ i : Nat, i < N → (Cond.eq (.length (.field (tm i) "java/lang/String" "value" "[B")) (.int (Int32.ofNat (len.getD i 0)))).before args s = true)
    (hel : ∀ i : Nat, i < N → ∀ j : Nat, j < len.getD i 0 → (Cond.eq (.elem (.field (tm i) "java/lang/String" "value" "[B") (.int (Int32.ofNat j))) (.int ((byt.getD i []).getD j 0))).before args s = true)
    (hne : ∀ i, i < N → ∀ j, j < N → i ≠ j → len.getD i 0 ≠ len.getD j 0 ∨ ∃ k, k < len.getD i 0 ∧ (byt.getD i []).getD k 0 ≠ (byt.getD j []).getD k 0) (hA : ∀ a : Nat, a < s.heap.size → ¬ A a) :
    ∃ adK adV : Nat → Nat, vk_S N len byt adK adV A s s.heap ∧ ∀ i : Nat, i < N → (tm i).eval args s none [] s = some (.ref (adK i)) := by
  have h0 : ∀ i : Nat, ∃ q : Nat × Nat, i < N → (tm i).eval args s none [] s = some (.ref q.1) ∧ va_O "java/lang/String" q.1 A s s.heap ∧ va_OF "java/lang/String" "coder" "B" (.int 0) q.1 A s s.heap ∧ va_OF "java/lang/String" "value" "[B" (.ref q.2) q.1 A s s.heap ∧ va_T .byte q.2 (len.getD i 0) (fun j => .int ((byt.getD i []).getD j 0)) A s s.heap := by
    intro i
    by_cases hi : i < N
    · obtain ⟨a, c, cA, kA, q1, q2, q3, q4, q5, q6, -⟩ := Cond.exactly_spec (args := args) (first := s) (o := none) (s := s) (idx := []) (t := tm i) (cls := "java/lang/String") (hex i hi)
      obtain ⟨t, ht, hT⟩ := va_Tof (f := fun j => .int ((byt.getD i []).getD j 0)) (A := A) (hN i hi) (har i hi) (va_eqt (hle i hi)) (fun j hj => va_eqt (hel i hi j hj)) hA
      exact ⟨(a, t), fun _ => ⟨q1, ⟨cA, q3, q5, by rw [q6]; exact q2, hA a (Array.getElem?_eq_some_iff.mp q3).1⟩, vk_OFof q1 (va_eqt (hco i hi)) hA, vk_OFof q1 ht hA, hT⟩⟩
    · exact ⟨(0, 0), fun h => absurd h hi⟩
  obtain ⟨ad, had⟩ := Classical.axiomOfChoice h0
  refine ⟨fun i => (ad i).1, fun i => (ad i).2, ⟨fun i hi => (had i hi).2, fun i j hi hj e => ?_⟩, fun i hi => (had i hi).1⟩
  refine Decidable.byContradiction (fun hij => ?_)
  obtain ⟨-, -, -, f1, t1⟩ := had i hi
  obtain ⟨-, -, -, f2, t2⟩ := had j hj
  have e' : (ad i).1 = (ad j).1 := e
  rw [← e'] at f2
  have hv := o_OF_one f1 f2
  have hv2 : (ad i).2 = (ad j).2 := by injection hv
  rw [← hv2] at t2
  obtain ⟨cell, a1, a2, a3, a4, a5, a6, -⟩ := t1
  obtain ⟨cell', b1, b2, b3, b4, b5, b6, -⟩ := t2
  rw [a1] at b1
  cases b1
  have hl : len.getD i 0 = len.getD j 0 := by
    have h5 : Int32.ofNat (len.getD i 0) = Int32.ofNat (len.getD j 0) := a5.symm.trans b5
    have h6 := congrArg Int32.toInt h5
    rw [Int32.toInt_ofNat_of_lt (by have := hN i hi; omega), Int32.toInt_ofNat_of_lt (by have := hN j hj; omega)] at h6
    omega
  rcases hne i hi j hj hij with h | ⟨k, hk, h⟩
  · exact h hl
  · have h7 := (a6 k hk).symm.trans (b6 k (by omega))
    have h8 := Option.some.inj h7
    exact h (by injection h8)
theorem o_Enof {args : Array Value} {s : State} {A : Nat → Prop} (hl : ∀ i, i < 45 → (Cond.laysStatic "SchemaJudge$Keyword" (o_kn.getD i "") "LSchemaJudge$Keyword;").before args s = true) (hini : (Cond.initialized "SchemaJudge$Keyword").before args s = true)
    (hex : ∀ i, i < 45 → (Cond.exactly (.static "SchemaJudge$Keyword" (o_kn.getD i "") "LSchemaJudge$Keyword;") "SchemaJudge$Keyword").before args s = true) (hf : ∀ q ∈ o_kF, ∀ i, i < 45 → (Cond.eq (.field (.static "SchemaJudge$Keyword" (o_kn.getD i "") "LSchemaJudge$Keyword;") q.1 q.2.1 q.2.2.1) (.int (q.2.2.2.getD i 0))).before args s = true)
    (hA : ∀ a : Nat, a < s.heap.size → ¬ A a) : ∃ ad : Nat → Nat, va_En "SchemaJudge$Keyword" "LSchemaJudge$Keyword;" o_kn o_kF ad A s s.heap ∧ ∀ i, i < 45 → (Term.static "SchemaJudge$Keyword" (o_kn.getD i "") "LSchemaJudge$Keyword;").eval args s none [] s = some (.ref (ad i)) := by
  have h0 : ∀ i : Nat, ∃ t : Nat, i < 45 → (Term.static "SchemaJudge$Keyword" (o_kn.getD i "") "LSchemaJudge$Keyword;").eval args s none [] s = some (.ref t) ∧ va_O "SchemaJudge$Keyword" t A s s.heap := by
    intro i
    by_cases hi : i < 45
    · obtain ⟨a, c, cell, k, q1, q2, q3, q4, q5, q6, -⟩ := Cond.exactly_spec (hex i hi)
      exact ⟨a, fun _ => ⟨q1, cell, q3, q5, by rw [q6]; exact q2, hA a (Array.getElem?_eq_some_iff.mp q3).1⟩⟩
    · exact ⟨0, fun h => absurd h hi⟩
  obtain ⟨ad, had⟩ := Classical.axiomOfChoice h0
  have hfield : ∀ q ∈ o_kF, ∀ i, i < 45 → va_OF q.1 q.2.1 q.2.2.1 (.int (q.2.2.2.getD i 0)) (ad i) A s s.heap := fun q hq i hi => vk_OFof (had i hi).1 (va_eqt (hf q hq i hi)) hA
  refine ⟨ad, ⟨fun i hi => ⟨va_Zref (hl i hi) hini (had i hi).1 hA, (had i hi).2, fun q hq => hfield q hq i hi⟩, fun i j hi hj e => ?_⟩, fun i hi => (had i hi).1⟩
  have h1 := hfield ("java/lang/Enum", "ordinal", "I", o_kordinal) List.mem_cons_self i hi
  have h2 := hfield ("java/lang/Enum", "ordinal", "I", o_kordinal) List.mem_cons_self j hj
  rw [← e] at h2
  have h3 := o_OF_one h1 h2
  exact n_ho i hi j hj (by injection h3)

set_option maxHeartbeats 8000000 in
set_option maxRecDepth 100000 in
theorem o_Eof {args : Array Value} {s : State} (hts0 : ∀ w ∈ lw_tbl, w.before args s = true) (hgv : (Jvm.Cond.and given_1 narrow_1).before args s = true) (A : Nat → Prop) (hA : ∀ a : Nat, a < s.heap.size → ¬ A a) : ∃ (E : (Nat → Prop) → State → Heap → Prop) (kd sd vd xd : Nat → Nat), o_EK E kd sd vd xd ∧ o_ET E ∧ (∀ (A : Nat → Prop) (U : State) (H : Heap), E A U H → va_AO "java/lang/String" U) ∧ E A s s.heap := by
  have hn : ∀ c ∈ n_L, c.before args s = true := by
    rw [Cond.before_and, Bool.and_eq_true] at hgv
    exact flat_of_before _ hgv.2
  have hN : ∀ {c : Cond}, c ∈ n_L → c.before args s = true := fun h => hn _ h
  obtain ⟨sd, vd, hSS, hev⟩ := o_Sof (A := A) n_h6 (fun i hi => hN (n_h1 i hi)) (fun i hi => hN (n_h2 i hi)) (fun i hi => hN (n_h3 i hi)) (fun i hi => hN (n_h4 i hi)) (fun i hi j hj => hN (n_h5 i hi j hj)) n_h7 hA
  have e0 : (Term.string "SchemaJudge" 75).eval args s none [] s = some (.ref (sd 0)) := hev 0 (by decide)
  have e1 : (Term.string "SchemaJudge" 88).eval args s none [] s = some (.ref (sd 1)) := hev 1 (by decide)
  have e2 : (Term.string "SchemaJudge$Reader" 63).eval args s none [] s = some (.ref (sd 2)) := hev 2 (by decide)
  have e3 : (Term.string "SchemaJudge$Reader" 69).eval args s none [] s = some (.ref (sd 3)) := hev 3 (by decide)
  have e4 : (Term.string "SchemaJudge$Reader" 71).eval args s none [] s = some (.ref (sd 4)) := hev 4 (by decide)
  have e5 : (Term.string "SchemaJudge" 99).eval args s none [] s = some (.ref (sd 5)) := hev 5 (by decide)
  have e6 : (Term.string "SchemaJudge" 107).eval args s none [] s = some (.ref (sd 6)) := hev 6 (by decide)
  have e7 : (Term.string "SchemaJudge$Pattern" 90).eval args s none [] s = some (.ref (sd 7)) := hev 7 (by decide)
  have e8 : (Term.string "SchemaJudge$Pattern" 85).eval args s none [] s = some (.ref (sd 8)) := hev 8 (by decide)
  have e9 : (Term.string "SchemaJudge$Pattern" 88).eval args s none [] s = some (.ref (sd 9)) := hev 9 (by decide)
  have e10 : (Term.string "SchemaJudge$Pattern" 60).eval args s none [] s = some (.ref (sd 10)) := hev 10 (by decide)
  have e11 : (Term.string "SchemaJudge$Checker" 174).eval args s none [] s = some (.ref (sd 11)) := hev 11 (by decide)
  have e12 : (Term.string "SchemaJudge$Checker" 176).eval args s none [] s = some (.ref (sd 12)) := hev 12 (by decide)
  have e13 : (Term.string "SchemaJudge$Checker" 178).eval args s none [] s = some (.ref (sd 13)) := hev 13 (by decide)
  have e14 : (Term.string "SchemaJudge$Checker" 180).eval args s none [] s = some (.ref (sd 14)) := hev 14 (by decide)
  have e15 : (Term.string "SchemaJudge$Checker" 182).eval args s none [] s = some (.ref (sd 15)) := hev 15 (by decide)
  have e16 : (Term.string "SchemaJudge$Checker" 184).eval args s none [] s = some (.ref (sd 16)) := hev 16 (by decide)
  have e17 : (Term.string "SchemaJudge" 119).eval args s none [] s = some (.ref (sd 17)) := hev 17 (by decide)
  have e18 : (Term.string "SchemaJudge" 136).eval args s none [] s = some (.ref (sd 18)) := hev 18 (by decide)
  have e19 : (Term.string "SchemaJudge" 142).eval args s none [] s = some (.ref (sd 19)) := hev 19 (by decide)
  have e20 : (Term.string "SchemaJudge" 148).eval args s none [] s = some (.ref (sd 20)) := hev 20 (by decide)
  have e21 : (Term.string "SchemaJudge" 154).eval args s none [] s = some (.ref (sd 21)) := hev 21 (by decide)
  have e22 : (Term.string "SchemaJudge" 176).eval args s none [] s = some (.ref (sd 22)) := hev 22 (by decide)
  have e23 : (Term.string "SchemaJudge" 185).eval args s none [] s = some (.ref (sd 23)) := hev 23 (by decide)
  have e24 : (Term.string "SchemaJudge" 196).eval args s none [] s = some (.ref (sd 24)) := hev 24 (by decide)
  have e25 : (Term.string "SchemaJudgeModel" 83).eval args s none [] s = some (.ref (sd 25)) := hev 25 (by decide)
  have e26 : (Term.string "SchemaJudgeModel" 85).eval args s none [] s = some (.ref (sd 26)) := hev 26 (by decide)
  have e27 : (Term.string "SchemaJudgeModel" 87).eval args s none [] s = some (.ref (sd 27)) := hev 27 (by decide)
  have e28 : (Term.string "SchemaJudgeModel" 88).eval args s none [] s = some (.ref (sd 28)) := hev 28 (by decide)
  have e29 : (Term.string "SchemaJudgeModel" 90).eval args s none [] s = some (.ref (sd 29)) := hev 29 (by decide)
  have e30 : (Term.string "SchemaJudgeModel" 92).eval args s none [] s = some (.ref (sd 30)) := hev 30 (by decide)
  have e31 : (Term.string "SchemaJudgeModel" 94).eval args s none [] s = some (.ref (sd 31)) := hev 31 (by decide)
  have e32 : (Term.string "SchemaJudgeModel" 96).eval args s none [] s = some (.ref (sd 32)) := hev 32 (by decide)
  have e33 : (Term.string "SchemaJudgeModel" 98).eval args s none [] s = some (.ref (sd 33)) := hev 33 (by decide)
  have e34 : (Term.string "SchemaJudgeModel" 100).eval args s none [] s = some (.ref (sd 34)) := hev 34 (by decide)
  have e35 : (Term.string "SchemaJudgeModel" 102).eval args s none [] s = some (.ref (sd 35)) := hev 35 (by decide)
  have e36 : (Term.string "SchemaJudgeModel" 104).eval args s none [] s = some (.ref (sd 36)) := hev 36 (by decide)
  have e37 : (Term.string "SchemaJudgeModel" 106).eval args s none [] s = some (.ref (sd 37)) := hev 37 (by decide)
  have e38 : (Term.string "SchemaJudgeModel" 108).eval args s none [] s = some (.ref (sd 38)) := hev 38 (by decide)
  have e39 : (Term.string "SchemaJudgeModel" 110).eval args s none [] s = some (.ref (sd 39)) := hev 39 (by decide)
  have e40 : (Term.string "SchemaJudgeModel" 112).eval args s none [] s = some (.ref (sd 40)) := hev 40 (by decide)
  have e41 : (Term.string "SchemaJudgeModel" 114).eval args s none [] s = some (.ref (sd 41)) := hev 41 (by decide)
  have e42 : (Term.string "SchemaJudgeModel" 116).eval args s none [] s = some (.ref (sd 42)) := hev 42 (by decide)
  have e43 : (Term.string "SchemaJudgeModel" 118).eval args s none [] s = some (.ref (sd 43)) := hev 43 (by decide)
  have e44 : (Term.string "SchemaJudgeModel" 120).eval args s none [] s = some (.ref (sd 44)) := hev 44 (by decide)
  have e45 : (Term.string "SchemaJudgeModel" 122).eval args s none [] s = some (.ref (sd 45)) := hev 45 (by decide)
  have e46 : (Term.string "SchemaJudgeModel" 124).eval args s none [] s = some (.ref (sd 46)) := hev 46 (by decide)
  have e47 : (Term.string "SchemaJudgeModel" 126).eval args s none [] s = some (.ref (sd 47)) := hev 47 (by decide)
  have e48 : (Term.string "SchemaJudgeModel" 128).eval args s none [] s = some (.ref (sd 48)) := hev 48 (by decide)
  have e49 : (Term.string "SchemaJudgeModel" 130).eval args s none [] s = some (.ref (sd 49)) := hev 49 (by decide)
  have e50 : (Term.string "SchemaJudgeModel" 132).eval args s none [] s = some (.ref (sd 50)) := hev 50 (by decide)
  have e51 : (Term.string "SchemaJudgeModel" 134).eval args s none [] s = some (.ref (sd 51)) := hev 51 (by decide)
  have e52 : (Term.string "SchemaJudgeModel" 136).eval args s none [] s = some (.ref (sd 52)) := hev 52 (by decide)
  have e53 : (Term.string "SchemaJudgeModel" 138).eval args s none [] s = some (.ref (sd 53)) := hev 53 (by decide)
  have e54 : (Term.string "SchemaJudgeModel" 140).eval args s none [] s = some (.ref (sd 54)) := hev 54 (by decide)
  have e55 : (Term.string "SchemaJudgeModel" 142).eval args s none [] s = some (.ref (sd 55)) := hev 55 (by decide)
  have e56 : (Term.string "SchemaJudgeModel" 144).eval args s none [] s = some (.ref (sd 56)) := hev 56 (by decide)
  have e57 : (Term.string "SchemaJudgeModel" 146).eval args s none [] s = some (.ref (sd 57)) := hev 57 (by decide)
  have e58 : (Term.string "SchemaJudgeModel" 148).eval args s none [] s = some (.ref (sd 58)) := hev 58 (by decide)
  have e59 : (Term.string "SchemaJudgeModel" 150).eval args s none [] s = some (.ref (sd 59)) := hev 59 (by decide)
  have e60 : (Term.string "SchemaJudgeModel" 152).eval args s none [] s = some (.ref (sd 60)) := hev 60 (by decide)
  have e61 : (Term.string "SchemaJudgeModel" 154).eval args s none [] s = some (.ref (sd 61)) := hev 61 (by decide)
  have e62 : (Term.string "SchemaJudgeModel" 156).eval args s none [] s = some (.ref (sd 62)) := hev 62 (by decide)
  have e63 : (Term.string "SchemaJudgeModel" 158).eval args s none [] s = some (.ref (sd 63)) := hev 63 (by decide)
  have e64 : (Term.string "SchemaJudgeModel" 160).eval args s none [] s = some (.ref (sd 64)) := hev 64 (by decide)
  have e65 : (Term.string "SchemaJudgeModel" 162).eval args s none [] s = some (.ref (sd 65)) := hev 65 (by decide)
  have e66 : (Term.string "SchemaJudgeModel" 164).eval args s none [] s = some (.ref (sd 66)) := hev 66 (by decide)
  have e67 : (Term.string "SchemaJudgeModel" 166).eval args s none [] s = some (.ref (sd 67)) := hev 67 (by decide)
  have e68 : (Term.string "SchemaJudgeModel" 168).eval args s none [] s = some (.ref (sd 68)) := hev 68 (by decide)
  have e69 : (Term.string "SchemaJudge$Keyword" 184).eval args s none [] s = some (.ref (sd 69)) := hev 69 (by decide)
  have e70 : (Term.string "SchemaJudge$Checker" 168).eval args s none [] s = some (.ref (sd 2)) := va_eqR (hN (n_sub_mem _ _ n_px _ (List.mem_of_getElem? (i := 11) rfl))) e2
  have e71 : (Term.string "SchemaJudge$Judge" 283).eval args s none [] s = some (.ref (sd 2)) := va_eqR (hN (n_sub_mem _ _ n_px _ (List.mem_of_getElem? (i := 12) rfl))) e2
  have e72 : (Term.string "SchemaJudgeModel" 174).eval args s none [] s = some (.ref (sd 2)) := va_eqR (hN (n_sub_mem _ _ n_px _ (List.mem_of_getElem? (i := 19) rfl))) e2
  have e73 : (Term.string "SchemaJudgeModel$Text" 107).eval args s none [] s = some (.ref (sd 2)) := va_eqR (hN (n_sub_mem _ _ n_px _ (List.mem_of_getElem? (i := 26) rfl))) e2
  have e74 : (Term.string "SchemaJudgeModel$Text" 115).eval args s none [] s = some (.ref (sd 3)) := va_eqR (hN (n_sub_mem _ _ n_px _ (List.mem_of_getElem? (i := 28) rfl))) e3
  have e75 : (Term.string "SchemaJudgeModel$Text" 113).eval args s none [] s = some (.ref (sd 4)) := va_eqR (hN (n_sub_mem _ _ n_px _ (List.mem_of_getElem? (i := 27) rfl))) e4
  have e76 : (Term.string "SchemaJudge$Judge" 289).eval args s none [] s = some (.ref (sd 11)) := va_eqR (hN (n_sub_mem _ _ n_px _ (List.mem_of_getElem? (i := 13) rfl))) e11
  have e77 : (Term.string "SchemaJudgeModel" 176).eval args s none [] s = some (.ref (sd 11)) := va_eqR (hN (n_sub_mem _ _ n_px _ (List.mem_of_getElem? (i := 20) rfl))) e11
  have e78 : (Term.string "SchemaJudge$Judge" 302).eval args s none [] s = some (.ref (sd 12)) := va_eqR (hN (n_sub_mem _ _ n_px _ (List.mem_of_getElem? (i := 18) rfl))) e12
  have e79 : (Term.string "SchemaJudgeModel" 178).eval args s none [] s = some (.ref (sd 12)) := va_eqR (hN (n_sub_mem _ _ n_px _ (List.mem_of_getElem? (i := 21) rfl))) e12
  have e80 : (Term.string "SchemaJudge$Judge" 300).eval args s none [] s = some (.ref (sd 13)) := va_eqR (hN (n_sub_mem _ _ n_px _ (List.mem_of_getElem? (i := 17) rfl))) e13
  have e81 : (Term.string "SchemaJudgeModel" 180).eval args s none [] s = some (.ref (sd 13)) := va_eqR (hN (n_sub_mem _ _ n_px _ (List.mem_of_getElem? (i := 22) rfl))) e13
  have e82 : (Term.string "SchemaJudge$Judge" 291).eval args s none [] s = some (.ref (sd 14)) := va_eqR (hN (n_sub_mem _ _ n_px _ (List.mem_of_getElem? (i := 14) rfl))) e14
  have e83 : (Term.string "SchemaJudgeModel" 182).eval args s none [] s = some (.ref (sd 14)) := va_eqR (hN (n_sub_mem _ _ n_px _ (List.mem_of_getElem? (i := 23) rfl))) e14
  have e84 : (Term.string "SchemaJudge$Judge" 298).eval args s none [] s = some (.ref (sd 15)) := va_eqR (hN (n_sub_mem _ _ n_px _ (List.mem_of_getElem? (i := 16) rfl))) e15
  have e85 : (Term.string "SchemaJudgeModel" 184).eval args s none [] s = some (.ref (sd 15)) := va_eqR (hN (n_sub_mem _ _ n_px _ (List.mem_of_getElem? (i := 24) rfl))) e15
  have e86 : (Term.string "SchemaJudge$Judge" 296).eval args s none [] s = some (.ref (sd 16)) := va_eqR (hN (n_sub_mem _ _ n_px _ (List.mem_of_getElem? (i := 15) rfl))) e16
  have e87 : (Term.string "SchemaJudgeModel" 186).eval args s none [] s = some (.ref (sd 16)) := va_eqR (hN (n_sub_mem _ _ n_px _ (List.mem_of_getElem? (i := 25) rfl))) e16
  have e88 : (Term.string "SchemaJudge$Keyword" 190).eval args s none [] s = some (.ref (sd 25)) := va_eqR (hN (n_sub_mem _ _ n_px _ (List.mem_of_getElem? (i := 37) rfl))) e25
  have e89 : (Term.string "SchemaJudge$Keyword" 193).eval args s none [] s = some (.ref (sd 26)) := va_eqR (hN (n_sub_mem _ _ n_px _ (List.mem_of_getElem? (i := 36) rfl))) e26
  have e90 : (Term.string "SchemaJudge$Keyword" 196).eval args s none [] s = some (.ref (sd 27)) := va_eqR (hN (n_sub_mem _ _ n_px _ (List.mem_of_getElem? (i := 34) rfl))) e27
  have e91 : (Term.string "SchemaJudge$Keyword" 199).eval args s none [] s = some (.ref (sd 28)) := va_eqR (hN (n_sub_mem _ _ n_px _ (List.mem_of_getElem? (i := 35) rfl))) e28
  have e92 : (Term.string "SchemaJudge$Keyword" 202).eval args s none [] s = some (.ref (sd 29)) := va_eqR (hN (n_sub_mem _ _ n_px _ (List.mem_of_getElem? (i := 46) rfl))) e29
  have e93 : (Term.string "SchemaJudge$Keyword" 205).eval args s none [] s = some (.ref (sd 30)) := va_eqR (hN (n_sub_mem _ _ n_px _ (List.mem_of_getElem? (i := 38) rfl))) e30
  have e94 : (Term.string "SchemaJudge$Keyword" 208).eval args s none [] s = some (.ref (sd 31)) := va_eqR (hN (n_sub_mem _ _ n_px _ (List.mem_of_getElem? (i := 47) rfl))) e31
  have e95 : (Term.string "SchemaJudge$Keyword" 211).eval args s none [] s = some (.ref (sd 32)) := va_eqR (hN (n_sub_mem _ _ n_px _ (List.mem_of_getElem? (i := 41) rfl))) e32
  have e96 : (Term.string "SchemaJudge$Keyword" 214).eval args s none [] s = some (.ref (sd 33)) := va_eqR (hN (n_sub_mem _ _ n_px _ (List.mem_of_getElem? (i := 32) rfl))) e33
  have e97 : (Term.string "SchemaJudge$Keyword" 217).eval args s none [] s = some (.ref (sd 34)) := va_eqR (hN (n_sub_mem _ _ n_px _ (List.mem_of_getElem? (i := 33) rfl))) e34
  have e98 : (Term.string "SchemaJudge$Keyword" 220).eval args s none [] s = some (.ref (sd 35)) := va_eqR (hN (n_sub_mem _ _ n_px _ (List.mem_of_getElem? (i := 48) rfl))) e35
  have e99 : (Term.string "SchemaJudge$Keyword" 223).eval args s none [] s = some (.ref (sd 36)) := va_eqR (hN (n_sub_mem _ _ n_px _ (List.mem_of_getElem? (i := 44) rfl))) e36
  have e100 : (Term.string "SchemaJudge$Keyword" 226).eval args s none [] s = some (.ref (sd 37)) := va_eqR (hN (n_sub_mem _ _ n_px _ (List.mem_of_getElem? (i := 45) rfl))) e37
  have e101 : (Term.string "SchemaJudge$Keyword" 229).eval args s none [] s = some (.ref (sd 38)) := va_eqR (hN (n_sub_mem _ _ n_px _ (List.mem_of_getElem? (i := 39) rfl))) e38
  have e102 : (Term.string "SchemaJudge$Keyword" 232).eval args s none [] s = some (.ref (sd 39)) := va_eqR (hN (n_sub_mem _ _ n_px _ (List.mem_of_getElem? (i := 49) rfl))) e39
  have e103 : (Term.string "SchemaJudge$Keyword" 235).eval args s none [] s = some (.ref (sd 40)) := va_eqR (hN (n_sub_mem _ _ n_px _ (List.mem_of_getElem? (i := 40) rfl))) e40
  have e104 : (Term.string "SchemaJudge$Keyword" 238).eval args s none [] s = some (.ref (sd 41)) := va_eqR (hN (n_sub_mem _ _ n_px _ (List.mem_of_getElem? (i := 29) rfl))) e41
  have e105 : (Term.string "SchemaJudge$Keyword" 241).eval args s none [] s = some (.ref (sd 42)) := va_eqR (hN (n_sub_mem _ _ n_px _ (List.mem_of_getElem? (i := 50) rfl))) e42
  have e106 : (Term.string "SchemaJudge$Keyword" 244).eval args s none [] s = some (.ref (sd 43)) := va_eqR (hN (n_sub_mem _ _ n_px _ (List.mem_of_getElem? (i := 51) rfl))) e43
  have e107 : (Term.string "SchemaJudge$Keyword" 247).eval args s none [] s = some (.ref (sd 44)) := va_eqR (hN (n_sub_mem _ _ n_px _ (List.mem_of_getElem? (i := 52) rfl))) e44
  have e108 : (Term.string "SchemaJudge$Keyword" 250).eval args s none [] s = some (.ref (sd 45)) := va_eqR (hN (n_sub_mem _ _ n_px _ (List.mem_of_getElem? (i := 53) rfl))) e45
  have e109 : (Term.string "SchemaJudge$Keyword" 253).eval args s none [] s = some (.ref (sd 46)) := va_eqR (hN (n_sub_mem _ _ n_px _ (List.mem_of_getElem? (i := 54) rfl))) e46
  have e110 : (Term.string "SchemaJudge$Keyword" 256).eval args s none [] s = some (.ref (sd 47)) := va_eqR (hN (n_sub_mem _ _ n_px _ (List.mem_of_getElem? (i := 55) rfl))) e47
  have e111 : (Term.string "SchemaJudge$Keyword" 259).eval args s none [] s = some (.ref (sd 48)) := va_eqR (hN (n_sub_mem _ _ n_px _ (List.mem_of_getElem? (i := 56) rfl))) e48
  have e112 : (Term.string "SchemaJudge$Keyword" 262).eval args s none [] s = some (.ref (sd 49)) := va_eqR (hN (n_sub_mem _ _ n_px _ (List.mem_of_getElem? (i := 57) rfl))) e49
  have e113 : (Term.string "SchemaJudge$Keyword" 265).eval args s none [] s = some (.ref (sd 50)) := va_eqR (hN (n_sub_mem _ _ n_px _ (List.mem_of_getElem? (i := 58) rfl))) e50
  have e114 : (Term.string "SchemaJudge$Keyword" 268).eval args s none [] s = some (.ref (sd 51)) := va_eqR (hN (n_sub_mem _ _ n_px _ (List.mem_of_getElem? (i := 59) rfl))) e51
  have e115 : (Term.string "SchemaJudge$Keyword" 271).eval args s none [] s = some (.ref (sd 52)) := va_eqR (hN (n_sub_mem _ _ n_px _ (List.mem_of_getElem? (i := 43) rfl))) e52
  have e116 : (Term.string "SchemaJudge$Keyword" 274).eval args s none [] s = some (.ref (sd 53)) := va_eqR (hN (n_sub_mem _ _ n_px _ (List.mem_of_getElem? (i := 42) rfl))) e53
  have e117 : (Term.string "SchemaJudge$Keyword" 277).eval args s none [] s = some (.ref (sd 54)) := va_eqR (hN (n_sub_mem _ _ n_px _ (List.mem_of_getElem? (i := 60) rfl))) e54
  have e118 : (Term.string "SchemaJudge$Keyword" 280).eval args s none [] s = some (.ref (sd 55)) := va_eqR (hN (n_sub_mem _ _ n_px _ (List.mem_of_getElem? (i := 61) rfl))) e55
  have e119 : (Term.string "SchemaJudge$Keyword" 283).eval args s none [] s = some (.ref (sd 56)) := va_eqR (hN (n_sub_mem _ _ n_px _ (List.mem_of_getElem? (i := 62) rfl))) e56
  have e120 : (Term.string "SchemaJudge$Keyword" 286).eval args s none [] s = some (.ref (sd 57)) := va_eqR (hN (n_sub_mem _ _ n_px _ (List.mem_of_getElem? (i := 31) rfl))) e57
  have e121 : (Term.string "SchemaJudge$Keyword" 289).eval args s none [] s = some (.ref (sd 58)) := va_eqR (hN (n_sub_mem _ _ n_px _ (List.mem_of_getElem? (i := 30) rfl))) e58
  have e122 : (Term.string "SchemaJudge$Keyword" 292).eval args s none [] s = some (.ref (sd 59)) := va_eqR (hN (n_sub_mem _ _ n_px _ (List.mem_of_getElem? (i := 63) rfl))) e59
  have e123 : (Term.string "SchemaJudge$Keyword" 295).eval args s none [] s = some (.ref (sd 60)) := va_eqR (hN (n_sub_mem _ _ n_px _ (List.mem_of_getElem? (i := 64) rfl))) e60
  have e124 : (Term.string "SchemaJudge$Keyword" 298).eval args s none [] s = some (.ref (sd 61)) := va_eqR (hN (n_sub_mem _ _ n_px _ (List.mem_of_getElem? (i := 65) rfl))) e61
  have e125 : (Term.string "SchemaJudge$Keyword" 301).eval args s none [] s = some (.ref (sd 62)) := va_eqR (hN (n_sub_mem _ _ n_px _ (List.mem_of_getElem? (i := 66) rfl))) e62
  have e126 : (Term.string "SchemaJudge$Keyword" 304).eval args s none [] s = some (.ref (sd 63)) := va_eqR (hN (n_sub_mem _ _ n_px _ (List.mem_of_getElem? (i := 67) rfl))) e63
  have e127 : (Term.string "SchemaJudge$Keyword" 307).eval args s none [] s = some (.ref (sd 64)) := va_eqR (hN (n_sub_mem _ _ n_px _ (List.mem_of_getElem? (i := 68) rfl))) e64
  have e128 : (Term.string "SchemaJudge$Keyword" 310).eval args s none [] s = some (.ref (sd 65)) := va_eqR (hN (n_sub_mem _ _ n_px _ (List.mem_of_getElem? (i := 69) rfl))) e65
  have e129 : (Term.string "SchemaJudge$Keyword" 313).eval args s none [] s = some (.ref (sd 66)) := va_eqR (hN (n_sub_mem _ _ n_px _ (List.mem_of_getElem? (i := 70) rfl))) e66
  have e130 : (Term.string "SchemaJudge$Keyword" 316).eval args s none [] s = some (.ref (sd 67)) := va_eqR (hN (n_sub_mem _ _ n_px _ (List.mem_of_getElem? (i := 71) rfl))) e67
  have e131 : (Term.string "SchemaJudge$Keyword" 319).eval args s none [] s = some (.ref (sd 68)) := va_eqR (hN (n_sub_mem _ _ n_px _ (List.mem_of_getElem? (i := 72) rfl))) e68
  have hR : ∀ q ∈ o_srs, vk_R q.1 q.2.1 q.2.2.1 (sd q.2.2.2) s := List.forall_mem_cons.mpr ⟨vk_R.of (hts0 _ (o_tb2 _ (List.mem_of_getElem? (i := 214) rfl))) e0, List.forall_mem_cons.mpr ⟨vk_R.of (hts0 _ (o_tb3 _ (List.mem_of_getElem? (i := 17) rfl))) e1, List.forall_mem_cons.mpr ⟨vk_R.of (hts0 _ (o_tb3 _ (List.mem_of_getElem? (i := 56) rfl))) e2, List.forall_mem_cons.mpr ⟨vk_R.of (hts0 _ (o_tb3 _ (List.mem_of_getElem? (i := 109) rfl))) e3, List.forall_mem_cons.mpr ⟨vk_R.of (hts0 _ (o_tb3 _ (List.mem_of_getElem? (i := 110) rfl))) e4, List.forall_mem_cons.mpr ⟨vk_R.of (hts0 _ (o_tb3 _ (List.mem_of_getElem? (i := 238) rfl))) e5, List.forall_mem_cons.mpr ⟨vk_R.of (hts0 _ (o_tb4 _ (List.mem_of_getElem? (i := 26) rfl))) e6, List.forall_mem_cons.mpr ⟨vk_R.of (hts0 _ (o_tb4 _ (List.mem_of_getElem? (i := 135) rfl))) e7, List.forall_mem_cons.mpr ⟨vk_R.of (hts0 _ (o_tb4 _ (List.mem_of_getElem? (i := 195) rfl))) e8, List.forall_mem_cons.mpr ⟨vk_R.of (hts0 _ (o_tb4 _ (List.mem_of_getElem? (i := 200) rfl))) e9, List.forall_mem_cons.mpr ⟨vk_R.of (hts0 _ (o_tb4 _ (List.mem_of_getElem? (i := 201) rfl))) e10, List.forall_mem_cons.mpr ⟨vk_R.of (hts0 _ (o_tb5 _ (List.mem_of_getElem? (i := 93) rfl))) e70, List.forall_mem_cons.mpr ⟨vk_R.of (hts0 _ (o_tb5 _ (List.mem_of_getElem? (i := 95) rfl))) e11, List.forall_mem_cons.mpr ⟨vk_R.of (hts0 _ (o_tb5 _ (List.mem_of_getElem? (i := 96) rfl))) e12, List.forall_mem_cons.mpr ⟨vk_R.of (hts0 _ (o_tb5 _ (List.mem_of_getElem? (i := 97) rfl))) e13, List.forall_mem_cons.mpr ⟨vk_R.of (hts0 _ (o_tb5 _ (List.mem_of_getElem? (i := 98) rfl))) e14, List.forall_mem_cons.mpr ⟨vk_R.of (hts0 _ (o_tb5 _ (List.mem_of_getElem? (i := 99) rfl))) e15, List.forall_mem_cons.mpr ⟨vk_R.of (hts0 _ (o_tb5 _ (List.mem_of_getElem? (i := 100) rfl))) e16, List.forall_mem_cons.mpr ⟨vk_R.of (hts0 _ (o_tb5 _ (List.mem_of_getElem? (i := 238) rfl))) e17, List.forall_mem_cons.mpr ⟨vk_R.of (hts0 _ (o_tb6 _ (List.mem_of_getElem? (i := 168) rfl))) e71, List.forall_mem_cons.mpr ⟨vk_R.of (hts0 _ (o_tb6 _ (List.mem_of_getElem? (i := 170) rfl))) e76, List.forall_mem_cons.mpr ⟨vk_R.of (hts0 _ (o_tb6 _ (List.mem_of_getElem? (i := 171) rfl))) e82, List.forall_mem_cons.mpr ⟨vk_R.of (hts0 _ (o_tb6 _ (List.mem_of_getElem? (i := 173) rfl))) e86, List.forall_mem_cons.mpr ⟨vk_R.of (hts0 _ (o_tb6 _ (List.mem_of_getElem? (i := 174) rfl))) e84, List.forall_mem_cons.mpr ⟨vk_R.of (hts0 _ (o_tb6 _ (List.mem_of_getElem? (i := 175) rfl))) e80, List.forall_mem_cons.mpr ⟨vk_R.of (hts0 _ (o_tb6 _ (List.mem_of_getElem? (i := 176) rfl))) e78, List.forall_mem_cons.mpr ⟨vk_R.of (hts0 _ (o_tb7 _ (List.mem_of_getElem? (i := 11) rfl))) e18, List.forall_mem_cons.mpr ⟨vk_R.of (hts0 _ (o_tb7 _ (List.mem_of_getElem? (i := 25) rfl))) e19, List.forall_mem_cons.mpr ⟨vk_R.of (hts0 _ (o_tb7 _ (List.mem_of_getElem? (i := 41) rfl))) e20, List.forall_mem_cons.mpr ⟨vk_R.of (hts0 _ (o_tb7 _ (List.mem_of_getElem? (i := 46) rfl))) e21, List.forall_mem_cons.mpr ⟨vk_R.of (hts0 _ (o_tb7 _ (List.mem_of_getElem? (i := 67) rfl))) e22, List.forall_mem_cons.mpr ⟨vk_R.of (hts0 _ (o_tb7 _ (List.mem_of_getElem? (i := 70) rfl))) e23, List.forall_mem_cons.mpr ⟨vk_R.of (hts0 _ (o_tb7 _ (List.mem_of_getElem? (i := 87) rfl))) e24, List.forall_mem_cons.mpr ⟨vk_R.of (hts0 _ (o_tb7 _ (List.mem_of_getElem? (i := 179) rfl))) e25, List.forall_mem_cons.mpr ⟨vk_R.of (hts0 _ (o_tb7 _ (List.mem_of_getElem? (i := 180) rfl))) e26, List.forall_mem_cons.mpr ⟨vk_R.of (hts0 _ (o_tb7 _ (List.mem_of_getElem? (i := 181) rfl))) e27, List.forall_mem_cons.mpr ⟨vk_R.of (hts0 _ (o_tb7 _ (List.mem_of_getElem? (i := 182) rfl))) e28, List.forall_mem_cons.mpr ⟨vk_R.of (hts0 _ (o_tb7 _ (List.mem_of_getElem? (i := 183) rfl))) e29, List.forall_mem_cons.mpr ⟨vk_R.of (hts0 _ (o_tb7 _ (List.mem_of_getElem? (i := 184) rfl))) e30, List.forall_mem_cons.mpr ⟨vk_R.of (hts0 _ (o_tb7 _ (List.mem_of_getElem? (i := 185) rfl))) e31, List.forall_mem_cons.mpr ⟨vk_R.of (hts0 _ (o_tb7 _ (List.mem_of_getElem? (i := 186) rfl))) e32, List.forall_mem_cons.mpr ⟨vk_R.of (hts0 _ (o_tb7 _ (List.mem_of_getElem? (i := 187) rfl))) e33, List.forall_mem_cons.mpr ⟨vk_R.of (hts0 _ (o_tb7 _ (List.mem_of_getElem? (i := 188) rfl))) e34, List.forall_mem_cons.mpr ⟨vk_R.of (hts0 _ (o_tb7 _ (List.mem_of_getElem? (i := 189) rfl))) e35, List.forall_mem_cons.mpr ⟨vk_R.of (hts0 _ (o_tb7 _ (List.mem_of_getElem? (i := 190) rfl))) e36, List.forall_mem_cons.mpr ⟨vk_R.of (hts0 _ (o_tb7 _ (List.mem_of_getElem? (i := 191) rfl))) e37, List.forall_mem_cons.mpr ⟨vk_R.of (hts0 _ (o_tb7 _ (List.mem_of_getElem? (i := 192) rfl))) e38, List.forall_mem_cons.mpr ⟨vk_R.of (hts0 _ (o_tb7 _ (List.mem_of_getElem? (i := 193) rfl))) e39, List.forall_mem_cons.mpr ⟨vk_R.of (hts0 _ (o_tb7 _ (List.mem_of_getElem? (i := 194) rfl))) e40, List.forall_mem_cons.mpr ⟨vk_R.of (hts0 _ (o_tb7 _ (List.mem_of_getElem? (i := 195) rfl))) e41, List.forall_mem_cons.mpr ⟨vk_R.of (hts0 _ (o_tb7 _ (List.mem_of_getElem? (i := 196) rfl))) e42, List.forall_mem_cons.mpr ⟨vk_R.of (hts0 _ (o_tb7 _ (List.mem_of_getElem? (i := 197) rfl))) e43, List.forall_mem_cons.mpr ⟨vk_R.of (hts0 _ (o_tb7 _ (List.mem_of_getElem? (i := 198) rfl))) e44, List.forall_mem_cons.mpr ⟨vk_R.of (hts0 _ (o_tb7 _ (List.mem_of_getElem? (i := 199) rfl))) e45, List.forall_mem_cons.mpr ⟨vk_R.of (hts0 _ (o_tb7 _ (List.mem_of_getElem? (i := 200) rfl))) e46, List.forall_mem_cons.mpr ⟨vk_R.of (hts0 _ (o_tb7 _ (List.mem_of_getElem? (i := 201) rfl))) e47, List.forall_mem_cons.mpr ⟨vk_R.of (hts0 _ (o_tb7 _ (List.mem_of_getElem? (i := 202) rfl))) e48, List.forall_mem_cons.mpr ⟨vk_R.of (hts0 _ (o_tb7 _ (List.mem_of_getElem? (i := 203) rfl))) e49, List.forall_mem_cons.mpr ⟨vk_R.of (hts0 _ (o_tb7 _ (List.mem_of_getElem? (i := 204) rfl))) e50, List.forall_mem_cons.mpr ⟨vk_R.of (hts0 _ (o_tb7 _ (List.mem_of_getElem? (i := 205) rfl))) e51, List.forall_mem_cons.mpr ⟨vk_R.of (hts0 _ (o_tb7 _ (List.mem_of_getElem? (i := 206) rfl))) e52, List.forall_mem_cons.mpr ⟨vk_R.of (hts0 _ (o_tb7 _ (List.mem_of_getElem? (i := 207) rfl))) e53, List.forall_mem_cons.mpr ⟨vk_R.of (hts0 _ (o_tb7 _ (List.mem_of_getElem? (i := 208) rfl))) e54, List.forall_mem_cons.mpr ⟨vk_R.of (hts0 _ (o_tb7 _ (List.mem_of_getElem? (i := 209) rfl))) e55, List.forall_mem_cons.mpr ⟨vk_R.of (hts0 _ (o_tb7 _ (List.mem_of_getElem? (i := 210) rfl))) e56, List.forall_mem_cons.mpr ⟨vk_R.of (hts0 _ (o_tb7 _ (List.mem_of_getElem? (i := 211) rfl))) e57, List.forall_mem_cons.mpr ⟨vk_R.of (hts0 _ (o_tb7 _ (List.mem_of_getElem? (i := 212) rfl))) e58, List.forall_mem_cons.mpr ⟨vk_R.of (hts0 _ (o_tb7 _ (List.mem_of_getElem? (i := 213) rfl))) e59, List.forall_mem_cons.mpr ⟨vk_R.of (hts0 _ (o_tb7 _ (List.mem_of_getElem? (i := 214) rfl))) e60, List.forall_mem_cons.mpr ⟨vk_R.of (hts0 _ (o_tb7 _ (List.mem_of_getElem? (i := 215) rfl))) e61, List.forall_mem_cons.mpr ⟨vk_R.of (hts0 _ (o_tb7 _ (List.mem_of_getElem? (i := 216) rfl))) e62, List.forall_mem_cons.mpr ⟨vk_R.of (hts0 _ (o_tb7 _ (List.mem_of_getElem? (i := 217) rfl))) e63, List.forall_mem_cons.mpr ⟨vk_R.of (hts0 _ (o_tb7 _ (List.mem_of_getElem? (i := 218) rfl))) e64, List.forall_mem_cons.mpr ⟨vk_R.of (hts0 _ (o_tb7 _ (List.mem_of_getElem? (i := 219) rfl))) e65, List.forall_mem_cons.mpr ⟨vk_R.of (hts0 _ (o_tb7 _ (List.mem_of_getElem? (i := 220) rfl))) e66, List.forall_mem_cons.mpr ⟨vk_R.of (hts0 _ (o_tb7 _ (List.mem_of_getElem? (i := 221) rfl))) e67, List.forall_mem_cons.mpr ⟨vk_R.of (hts0 _ (o_tb7 _ (List.mem_of_getElem? (i := 222) rfl))) e68, List.forall_mem_cons.mpr ⟨vk_R.of (hts0 _ (o_tb7 _ (List.mem_of_getElem? (i := 223) rfl))) e72, List.forall_mem_cons.mpr ⟨vk_R.of (hts0 _ (o_tb7 _ (List.mem_of_getElem? (i := 224) rfl))) e77, List.forall_mem_cons.mpr ⟨vk_R.of (hts0 _ (o_tb7 _ (List.mem_of_getElem? (i := 225) rfl))) e79, List.forall_mem_cons.mpr ⟨vk_R.of (hts0 _ (o_tb7 _ (List.mem_of_getElem? (i := 226) rfl))) e81, List.forall_mem_cons.mpr ⟨vk_R.of (hts0 _ (o_tb7 _ (List.mem_of_getElem? (i := 227) rfl))) e83, List.forall_mem_cons.mpr ⟨vk_R.of (hts0 _ (o_tb7 _ (List.mem_of_getElem? (i := 228) rfl))) e85, List.forall_mem_cons.mpr ⟨vk_R.of (hts0 _ (o_tb7 _ (List.mem_of_getElem? (i := 229) rfl))) e87, List.forall_mem_cons.mpr ⟨vk_R.of (hts0 _ (o_tb8 _ (List.mem_of_getElem? (i := 207) rfl))) e73, List.forall_mem_cons.mpr ⟨vk_R.of (hts0 _ (o_tb8 _ (List.mem_of_getElem? (i := 218) rfl))) e75, List.forall_mem_cons.mpr ⟨vk_R.of (hts0 _ (o_tb8 _ (List.mem_of_getElem? (i := 219) rfl))) e74, List.forall_mem_cons.mpr ⟨vk_R.of (hts0 _ (o_tb10 _ (List.mem_of_getElem? (i := 137) rfl))) e69, List.forall_mem_cons.mpr ⟨vk_R.of (hts0 _ (o_tb10 _ (List.mem_of_getElem? (i := 138) rfl))) e104, List.forall_mem_cons.mpr ⟨vk_R.of (hts0 _ (o_tb10 _ (List.mem_of_getElem? (i := 139) rfl))) e121, List.forall_mem_cons.mpr ⟨vk_R.of (hts0 _ (o_tb10 _ (List.mem_of_getElem? (i := 140) rfl))) e120, List.forall_mem_cons.mpr ⟨vk_R.of (hts0 _ (o_tb10 _ (List.mem_of_getElem? (i := 141) rfl))) e96, List.forall_mem_cons.mpr ⟨vk_R.of (hts0 _ (o_tb10 _ (List.mem_of_getElem? (i := 142) rfl))) e97, List.forall_mem_cons.mpr ⟨vk_R.of (hts0 _ (o_tb10 _ (List.mem_of_getElem? (i := 143) rfl))) e90, List.forall_mem_cons.mpr ⟨vk_R.of (hts0 _ (o_tb10 _ (List.mem_of_getElem? (i := 144) rfl))) e91, List.forall_mem_cons.mpr ⟨vk_R.of (hts0 _ (o_tb10 _ (List.mem_of_getElem? (i := 145) rfl))) e89, List.forall_mem_cons.mpr ⟨vk_R.of (hts0 _ (o_tb10 _ (List.mem_of_getElem? (i := 146) rfl))) e88, List.forall_mem_cons.mpr ⟨vk_R.of (hts0 _ (o_tb10 _ (List.mem_of_getElem? (i := 147) rfl))) e93, List.forall_mem_cons.mpr ⟨vk_R.of (hts0 _ (o_tb10 _ (List.mem_of_getElem? (i := 148) rfl))) e101, List.forall_mem_cons.mpr ⟨vk_R.of (hts0 _ (o_tb10 _ (List.mem_of_getElem? (i := 149) rfl))) e103, List.forall_mem_cons.mpr ⟨vk_R.of (hts0 _ (o_tb10 _ (List.mem_of_getElem? (i := 150) rfl))) e95, List.forall_mem_cons.mpr ⟨vk_R.of (hts0 _ (o_tb10 _ (List.mem_of_getElem? (i := 151) rfl))) e116, List.forall_mem_cons.mpr ⟨vk_R.of (hts0 _ (o_tb10 _ (List.mem_of_getElem? (i := 152) rfl))) e115, List.forall_mem_cons.mpr ⟨vk_R.of (hts0 _ (o_tb10 _ (List.mem_of_getElem? (i := 153) rfl))) e99, List.forall_mem_cons.mpr ⟨vk_R.of (hts0 _ (o_tb10 _ (List.mem_of_getElem? (i := 154) rfl))) e100, List.forall_mem_cons.mpr ⟨vk_R.of (hts0 _ (o_tb10 _ (List.mem_of_getElem? (i := 155) rfl))) e92, List.forall_mem_cons.mpr ⟨vk_R.of (hts0 _ (o_tb10 _ (List.mem_of_getElem? (i := 156) rfl))) e94, List.forall_mem_cons.mpr ⟨vk_R.of (hts0 _ (o_tb10 _ (List.mem_of_getElem? (i := 157) rfl))) e98, List.forall_mem_cons.mpr ⟨vk_R.of (hts0 _ (o_tb10 _ (List.mem_of_getElem? (i := 158) rfl))) e102, List.forall_mem_cons.mpr ⟨vk_R.of (hts0 _ (o_tb10 _ (List.mem_of_getElem? (i := 159) rfl))) e105, List.forall_mem_cons.mpr ⟨vk_R.of (hts0 _ (o_tb10 _ (List.mem_of_getElem? (i := 160) rfl))) e106, List.forall_mem_cons.mpr ⟨vk_R.of (hts0 _ (o_tb10 _ (List.mem_of_getElem? (i := 161) rfl))) e107, List.forall_mem_cons.mpr ⟨vk_R.of (hts0 _ (o_tb10 _ (List.mem_of_getElem? (i := 162) rfl))) e108, List.forall_mem_cons.mpr ⟨vk_R.of (hts0 _ (o_tb10 _ (List.mem_of_getElem? (i := 163) rfl))) e109, List.forall_mem_cons.mpr ⟨vk_R.of (hts0 _ (o_tb10 _ (List.mem_of_getElem? (i := 164) rfl))) e110, List.forall_mem_cons.mpr ⟨vk_R.of (hts0 _ (o_tb10 _ (List.mem_of_getElem? (i := 165) rfl))) e111, List.forall_mem_cons.mpr ⟨vk_R.of (hts0 _ (o_tb10 _ (List.mem_of_getElem? (i := 166) rfl))) e112, List.forall_mem_cons.mpr ⟨vk_R.of (hts0 _ (o_tb10 _ (List.mem_of_getElem? (i := 167) rfl))) e113, List.forall_mem_cons.mpr ⟨vk_R.of (hts0 _ (o_tb10 _ (List.mem_of_getElem? (i := 168) rfl))) e114, List.forall_mem_cons.mpr ⟨vk_R.of (hts0 _ (o_tb10 _ (List.mem_of_getElem? (i := 169) rfl))) e117, List.forall_mem_cons.mpr ⟨vk_R.of (hts0 _ (o_tb10 _ (List.mem_of_getElem? (i := 170) rfl))) e118, List.forall_mem_cons.mpr ⟨vk_R.of (hts0 _ (o_tb10 _ (List.mem_of_getElem? (i := 171) rfl))) e119, List.forall_mem_cons.mpr ⟨vk_R.of (hts0 _ (o_tb10 _ (List.mem_of_getElem? (i := 172) rfl))) e122, List.forall_mem_cons.mpr ⟨vk_R.of (hts0 _ (o_tb10 _ (List.mem_of_getElem? (i := 173) rfl))) e123, List.forall_mem_cons.mpr ⟨vk_R.of (hts0 _ (o_tb10 _ (List.mem_of_getElem? (i := 174) rfl))) e124, List.forall_mem_cons.mpr ⟨vk_R.of (hts0 _ (o_tb10 _ (List.mem_of_getElem? (i := 175) rfl))) e125, List.forall_mem_cons.mpr ⟨vk_R.of (hts0 _ (o_tb10 _ (List.mem_of_getElem? (i := 176) rfl))) e126, List.forall_mem_cons.mpr ⟨vk_R.of (hts0 _ (o_tb10 _ (List.mem_of_getElem? (i := 177) rfl))) e127, List.forall_mem_cons.mpr ⟨vk_R.of (hts0 _ (o_tb10 _ (List.mem_of_getElem? (i := 178) rfl))) e128, List.forall_mem_cons.mpr ⟨vk_R.of (hts0 _ (o_tb10 _ (List.mem_of_getElem? (i := 179) rfl))) e129, List.forall_mem_cons.mpr ⟨vk_R.of (hts0 _ (o_tb10 _ (List.mem_of_getElem? (i := 180) rfl))) e130, List.forall_mem_cons.mpr ⟨vk_R.of (hts0 _ (o_tb10 _ (List.mem_of_getElem? (i := 181) rfl))) e131, fun _ h => absurd h List.not_mem_nil⟩⟩⟩⟩⟩⟩⟩⟩⟩⟩⟩⟩⟩⟩⟩⟩⟩⟩⟩⟩⟩⟩⟩⟩⟩⟩⟩⟩⟩⟩⟩⟩⟩⟩⟩⟩⟩⟩⟩⟩⟩⟩⟩⟩⟩⟩⟩⟩⟩⟩⟩⟩⟩⟩⟩⟩⟩⟩⟩⟩⟩⟩⟩⟩⟩⟩⟩⟩⟩⟩⟩⟩⟩⟩⟩⟩⟩⟩⟩⟩⟩⟩⟩⟩⟩⟩⟩⟩⟩⟩⟩⟩⟩⟩⟩⟩⟩⟩⟩⟩⟩⟩⟩⟩⟩⟩⟩⟩⟩⟩⟩⟩⟩⟩⟩⟩⟩⟩⟩⟩⟩⟩⟩⟩⟩⟩⟩⟩⟩⟩⟩⟩
  have hgg : ∀ q ∈ o_kF, ∀ i, i < 45 → (Cond.eq (.field (.static "SchemaJudge$Keyword" (o_kn.getD i "") "LSchemaJudge$Keyword;") q.1 q.2.1 q.2.2.1) (.int (q.2.2.2.getD i 0))).before args s = true := List.forall_mem_cons.mpr ⟨fun i hi => hN (n_g0 i hi), List.forall_mem_cons.mpr ⟨fun i hi => hN (n_g1 i hi), List.forall_mem_cons.mpr ⟨fun i hi => hN (n_g2 i hi), List.forall_mem_cons.mpr ⟨fun i hi => hN (n_g3 i hi), List.forall_mem_nil _⟩⟩⟩⟩
  obtain ⟨kd, hEn, hke⟩ := o_Enof (A := A) (fun i hi => hts0 _ (n_lay i hi)) (hts0 _ (o_tb1 _ (List.mem_of_getElem? (i := 25) rfl))) (fun i hi => hN (n_h8 i hi)) hgg hA
  have hwd : va_Ef 45 "SchemaJudge$Keyword" "word" "Ljava/lang/String;" (fun i => .ref (sd (kw_str i))) kd A s s.heap := va_Efof (tm := fun i => Term.string (n_wL.getD i ("", 0)).1 (n_wL.getD i ("", 0)).2) hke (fun i hi => hN (n_h9 i hi)) (fun i hi => by
    match i, hi with
    | 0, _ => exact e69
    | 1, _ => exact e88
    | 2, _ => exact e89
    | 3, _ => exact e90
    | 4, _ => exact e91
    | 5, _ => exact e92
    | 6, _ => exact e93
    | 7, _ => exact e94
    | 8, _ => exact e95
    | 9, _ => exact e96
    | 10, _ => exact e97
    | 11, _ => exact e98
    | 12, _ => exact e99
    | 13, _ => exact e100
    | 14, _ => exact e101
    | 15, _ => exact e102
    | 16, _ => exact e103
    | 17, _ => exact e104
    | 18, _ => exact e105
    | 19, _ => exact e106
    | 20, _ => exact e107
    | 21, _ => exact e108
    | 22, _ => exact e109
    | 23, _ => exact e110
    | 24, _ => exact e111
    | 25, _ => exact e112
    | 26, _ => exact e113
    | 27, _ => exact e114
    | 28, _ => exact e115
    | 29, _ => exact e116
    | 30, _ => exact e117
    | 31, _ => exact e118
    | 32, _ => exact e119
    | 33, _ => exact e120
    | 34, _ => exact e121
    | 35, _ => exact e122
    | 36, _ => exact e123
    | 37, _ => exact e124
    | 38, _ => exact e125
    | 39, _ => exact e126
    | 40, _ => exact e127
    | 41, _ => exact e128
    | 42, _ => exact e129
    | 43, _ => exact e130
    | 44, _ => exact e131
    | n + 45, h => exact absurd h (by omega)) hA
  obtain ⟨x0, hx0, hT0⟩ := va_Tof (tm := .static "SchemaJudge$Keyword" "ALL" "[LSchemaJudge$Keyword;") (f := fun j => .ref (kd j)) (N := 45) (A := A) (by decide) (hN (n_sub_mem _ _ n_px _ (List.mem_of_getElem? (i := 4) rfl))) (va_eqt (hN (n_sub_mem _ _ n_px _ (List.mem_of_getElem? (i := 5) rfl)))) (fun j hj => va_eqv (hN (n_ha j hj)) (hke j hj)) hA
  obtain ⟨x1, hx1, hT1⟩ := va_Tof (tm := .static "SchemaJudge$1" "$SwitchMap$SchemaJudge$Keyword" "[I") (f := fun j => .int (sw_Keyword j)) (N := 45) (A := A) (by decide) (hN (n_sub_mem _ _ n_px _ (List.mem_of_getElem? (i := 6) rfl))) (va_eqt (hN (n_sub_mem _ _ n_px _ (List.mem_of_getElem? (i := 7) rfl)))) (fun j hj => va_eqt (hN (n_hs j hj))) hA
  refine ⟨o_E kd sd vd (fun k => if k = 0 then x0 else x1), kd, sd, vd, (fun k => if k = 0 then x0 else x1), o_E_ok _ _ _ _, o_E_et _ _ _ _, o_E_ao _ _ _ _, ?_⟩
  exact ⟨fun w hw => va_Nw.of (o_nws_on w hw) (hts0 w (o_nws_tbl w hw)), hEn, ⟨va_Zof (hts0 _ (o_tb4 _ (List.mem_of_getElem? (i := 80) rfl))) (hts0 _ (o_tb1 _ (List.mem_of_getElem? (i := 25) rfl))) hx0 hA, hT0⟩, ⟨va_Zof (hts0 _ (o_tb6 _ (List.mem_of_getElem? (i := 63) rfl))) (hts0 _ (o_tb1 _ (List.mem_of_getElem? (i := 30) rfl))) hx1 hA, hT1⟩, hR, hSS, hwd, va_Zof (hts0 _ (o_tb3 _ (List.mem_of_getElem? (i := 70) rfl))) (hts0 _ (o_tb1 _ (List.mem_of_getElem? (i := 18) rfl))) (va_eqi (hN (n_sub_mem _ _ n_px _ (List.mem_of_getElem? (i := 2) rfl)))) hA, va_Zqof (hts0 _ (o_tb3 _ (List.mem_of_getElem? (i := 86) rfl))) (hts0 _ (o_tb1 _ (List.mem_of_getElem? (i := 20) rfl))) (hN (n_sub_mem _ _ n_px _ (List.mem_of_getElem? (i := 3) rfl))) hA, o_TS1.of (hts0 _ (o_tb2 _ (List.mem_of_getElem? (i := 199) rfl))) (hN (n_sub_mem _ _ n_px _ (List.mem_of_getElem? (i := 0) rfl))) hA, o_TS1.of (hts0 _ (o_tb2 _ (List.mem_of_getElem? (i := 201) rfl))) (hN (n_sub_mem _ _ n_px _ (List.mem_of_getElem? (i := 1) rfl))) hA, ⟨(o_NA.of (hN (n_sub_mem _ _ n_px _ (List.mem_of_getElem? (i := 8) rfl)))), (o_NA.of (hN (n_sub_mem _ _ n_px _ (List.mem_of_getElem? (i := 9) rfl)))), (o_NA.of (hN (n_sub_mem _ _ n_px _ (List.mem_of_getElem? (i := 10) rfl))))⟩, va_AO.of (hts0 _ (o_tb7 _ (List.mem_of_getElem? (i := 178) rfl)))⟩
