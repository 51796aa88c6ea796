set_option maxHeartbeats 8000000 in
theorem s_MM_escape {n : Nat} {x1 : Int32} {tc : SMT} {Np : SNP} (hn : o_big ≤ n) (h_tc : I_MT tc) (t_tc : T_MT tc) (h_Np : I_NP Np) (p0 : NP_pat Np ≤ 4000) (p1 : NP_ranges Np + 6 ≤ 6 * NP_pat Np) : o_ok (m_MM_escape n x1 tc Np) (fun r => NF Np r.2 ∧ NP_pat Np < NP_pat r.2 ∧ (0 ≤ r.1 → NP_ranges r.2 + 1 ≤ 6 * NP_pat r.2) ∧ I_NP r.2) := by
  have i := sc_NP h_Np
  have I1 : ∀ {b : Int32}, I_NP (NP_pp Np (NP_pat Np + 1) b) := I_patU h_Np p0
  have p2 : NP_pat Np < NP_pat Np + 1 := by clear h_Np I1; grind
  have r1 : NP_ranges Np + 11 ≤ 6 * (NP_pat Np + 1) := by clear h_Np I1; grind
  have hleaf : ∀ v b : Int32, NF Np (v, NP_pp Np (NP_pat Np + 1) b).2 ∧ NP_pat Np < NP_pat (v, NP_pp Np (NP_pat Np + 1) b).2 ∧ (0 ≤ (v, NP_pp Np (NP_pat Np + 1) b).1 → NP_ranges (v, NP_pp Np (NP_pat Np + 1) b).2 + 1 ≤ 6 * NP_pat (v, NP_pp Np (NP_pat Np + 1) b).2) ∧ I_NP (v, NP_pp Np (NP_pat Np + 1) b).2 := fun v b => ⟨NF_pp, p2, fun _ => by show NP_ranges Np + 1 ≤ 6 * (NP_pat Np + 1); clear h_Np I1; grind, I1⟩
  have hnum : ∀ (v : Int32) (q : SNP), NF (NP_pp Np (NP_pat Np + 1) (NP_broken Np)) q → NP_pat Np + 1 ≤ NP_pat q → NP_ranges q = NP_ranges Np → I_NP q → NF Np (v, q).2 ∧ NP_pat Np < NP_pat (v, q).2 ∧ (0 ≤ (v, q).1 → NP_ranges (v, q).2 + 1 ≤ 6 * NP_pat (v, q).2) ∧ I_NP (v, q).2 := fun v q b1 b2 b3 b4 => ⟨NF_trans NF_pp b1, Int32.lt_of_lt_of_le p2 b2, fun _ => by
    show NP_ranges q + 1 ≤ 6 * NP_pat q
    have j := sc_NP b4
    rw [b3]; clear h_Np I1 b1 b4 hleaf; grind, b4⟩
  unfold m_MM_escape
  refine o_okB (s_MM_p h_tc t_tc h_Np (by decide) (by decide)) ?_
  intro q1 _
  refine o_okI (fun c1 => ?_) (fun c1 => ?_)
  · exact o_okS (hleaf _ _)
  refine o_okI (fun c2 => ?_) (fun c2 => ?_)
  · exact o_okS (hleaf _ _)
  refine o_okI (fun c3 => ?_) (fun c3 => ?_)
  · exact o_okS (hleaf _ _)
  refine o_okI (fun c4 => ?_) (fun c4 => ?_)
  · exact o_okS (hleaf _ _)
  refine o_okI (fun c5 => ?_) (fun c5 => ?_)
  · exact o_okS (hleaf _ _)
  refine o_okI (fun c6 => ?_) (fun c6 => ?_)
  · exact o_okS (hleaf _ _)
  refine o_okI (fun c7 => ?_) (fun c7 => ?_)
  · exact o_okS (hleaf _ _)
  refine o_okI (fun c8 => ?_) (fun c8 => ?_)
  · exact o_okS (hleaf _ _)
  refine o_okI (fun c9 => ?_) (fun c9 => ?_)
  · exact o_okS (hleaf _ _)
  refine o_okI (fun c10 => ?_) (fun c10 => ?_)
  · refine o_okI (fun c11 => ?_) (fun c11 => ?_)
    · exact o_okS (hleaf _ _)
    exact o_okS (hleaf _ _)
  refine o_okI (fun c12 => ?_) (fun c12 => ?_)
  · exact o_okS (hleaf _ _)
  refine o_okI (fun c13 => ?_) (fun c13 => ?_)
  · exact o_okS (hleaf _ _)
  refine o_okI (fun c14 => ?_) (fun c14 => ?_)
  · refine o_okB (s_MM_p h_tc t_tc I1 (by decide) (by decide)) ?_
    intro q2 _
    refine o_okB s_MM_in ?_
    intro q3 _
    refine o_okI (fun c15 => ?_) (fun c15 => ?_)
    · exact o_okS (hleaf _ _)
    exact o_okS (hleaf _ _)
  refine o_okI (fun c16 => ?_) (fun c16 => ?_)
  · exact o_okS (hleaf _ _)
  refine o_okI (fun c17 => ?_) (fun c17 => ?_)
  · exact o_okS (hleaf _ _)
  refine o_okI (fun c18 => ?_) (fun c18 => ?_)
  · exact o_okS (hleaf _ _)
  refine o_okI (fun c19 => ?_) (fun c19 => ?_)
  · exact o_okS (hleaf _ _)
  refine o_okI (fun c20 => ?_) (fun c20 => ?_)
  · exact o_okS (hleaf _ _)
  refine o_okI (fun c21 => ?_) (fun c21 => ?_)
  · exact o_okS (hleaf _ _)
  refine o_okI (fun c22 => ?_) (fun c22 => ?_)
  · exact o_okS (hleaf _ _)
  refine o_okI (fun c23 => ?_) (fun c23 => ?_)
  · exact o_okS (hleaf _ _)
  refine o_okI (fun c24 => ?_) (fun c24 => ?_)
  · exact o_okS (hleaf _ _)
  refine o_okI (fun c25 => ?_) (fun c25 => ?_)
  · exact o_okS (hleaf _ _)
  refine o_okI (fun c26 => ?_) (fun c26 => ?_)
  · exact o_okS (hleaf _ _)
  refine o_okI (fun c27 => ?_) (fun c27 => ?_)
  · exact o_okS (hleaf _ _)
  refine o_okI (fun c28 => ?_) (fun c28 => ?_)
  · exact o_okS (hleaf _ _)
  refine o_okI (fun c29 => ?_) (fun c29 => ?_)
  · exact o_okS (hleaf _ _)
  refine o_okI (fun c30 => ?_) (fun c30 => ?_)
  · exact o_okS (hleaf _ _)
  refine o_okI (fun c31 => ?_) (fun c31 => ?_)
  · exact o_okS (hleaf _ _)
  refine o_okI (fun c32 => ?_) (fun c32 => ?_)
  · exact o_okS (hleaf _ _)
  refine o_okI (fun c33 => ?_) (fun c33 => ?_)
  · exact o_okS (hleaf _ _)
  refine o_okI (fun c34 => ?_) (fun c34 => ?_)
  · exact o_okS (hleaf _ _)
  refine o_okI (fun c35 => ?_) (fun c35 => ?_)
  · refine o_okB (s_MM_set hn I1 r1) ?_
    intro q4 ⟨a1, a2, a3, a4⟩
    exact o_okS ⟨NF_trans NF_pp a1, by show NP_pat Np < NP_pat q4; rw [a2]; exact p2, fun z => absurd (show (0:Int32) ≤ -1 from z) (by decide), a4⟩
  refine o_okI (fun c36 => ?_) (fun c36 => ?_)
  · exact o_okS (hleaf _ _)
  refine o_okI (fun c37 => ?_) (fun c37 => ?_)
  · exact o_okS (hleaf _ _)
  refine o_okI (fun c38 => ?_) (fun c38 => ?_)
  · exact o_okS (hleaf _ _)
  refine o_okI (fun c39 => ?_) (fun c39 => ?_)
  · exact o_okS (hleaf _ _)
  refine o_okI (fun c40 => ?_) (fun c40 => ?_)
  · exact o_okS (hleaf _ _)
  refine o_okI (fun c41 => ?_) (fun c41 => ?_)
  · exact o_okS (hleaf _ _)
  refine o_okI (fun c42 => ?_) (fun c42 => ?_)
  · exact o_okS (hleaf _ _)
  refine o_okI (fun c43 => ?_) (fun c43 => ?_)
  · exact o_okS (hleaf _ _)
  refine o_okI (fun c44 => ?_) (fun c44 => ?_)
  · exact o_okS (hleaf _ _)
  refine o_okI (fun c45 => ?_) (fun c45 => ?_)
  · exact o_okS (hleaf _ _)
  refine o_okI (fun c46 => ?_) (fun c46 => ?_)
  · exact o_okS (hleaf _ _)
  refine o_okI (fun c47 => ?_) (fun c47 => ?_)
  · exact o_okS (hleaf _ _)
  refine o_okI (fun c48 => ?_) (fun c48 => ?_)
  · exact o_okS (hleaf _ _)
  refine o_okI (fun c49 => ?_) (fun c49 => ?_)
  · exact o_okS (hleaf _ _)
  refine o_okI (fun c50 => ?_) (fun c50 => ?_)
  · refine o_okB (s_MM_set hn I1 r1) ?_
    intro q5 ⟨a1, a2, a3, a4⟩
    exact o_okS ⟨NF_trans NF_pp a1, by show NP_pat Np < NP_pat q5; rw [a2]; exact p2, fun z => absurd (show (0:Int32) ≤ -1 from z) (by decide), a4⟩
  refine o_okI (fun c51 => ?_) (fun c51 => ?_)
  · exact o_okS (hleaf _ _)
  refine o_okI (fun c52 => ?_) (fun c52 => ?_)
  · exact o_okS (hleaf _ _)
  refine o_okI (fun c53 => ?_) (fun c53 => ?_)
  · exact o_okS (hleaf _ _)
  refine o_okI (fun c54 => ?_) (fun c54 => ?_)
  · refine o_okB (s_MM_set hn I1 r1) ?_
    intro q6 ⟨a1, a2, a3, a4⟩
    exact o_okS ⟨NF_trans NF_pp a1, by show NP_pat Np < NP_pat q6; rw [a2]; exact p2, fun z => absurd (show (0:Int32) ≤ -1 from z) (by decide), a4⟩
  refine o_okI (fun c55 => ?_) (fun c55 => ?_)
  · exact o_okS (hleaf _ _)
  refine o_okI (fun c56 => ?_) (fun c56 => ?_)
  · exact o_okS (hleaf _ _)
  refine o_okI (fun c57 => ?_) (fun c57 => ?_)
  · exact o_okS (hleaf _ _)
  refine o_okI (fun c58 => ?_) (fun c58 => ?_)
  · exact o_okS (hleaf _ _)
  refine o_okI (fun c59 => ?_) (fun c59 => ?_)
  · exact o_okS (hleaf _ _)
  refine o_okI (fun c60 => ?_) (fun c60 => ?_)
  · exact o_okS (hleaf _ _)
  refine o_okI (fun c61 => ?_) (fun c61 => ?_)
  · exact o_okS (hleaf _ _)
  refine o_okI (fun c62 => ?_) (fun c62 => ?_)
  · exact o_okS (hleaf _ _)
  refine o_okI (fun c63 => ?_) (fun c63 => ?_)
  · exact o_okS (hleaf _ _)
  refine o_okI (fun c64 => ?_) (fun c64 => ?_)
  · exact o_okS (hleaf _ _)
  refine o_okI (fun c65 => ?_) (fun c65 => ?_)
  · refine o_okI (fun c66 => ?_) (fun c66 => ?_)
    · exact o_okS (hleaf _ _)
    exact o_okS (hleaf _ _)
  refine o_okI (fun c67 => ?_) (fun c67 => ?_)
  · exact o_okS (hleaf _ _)
  refine o_okI (fun c68 => ?_) (fun c68 => ?_)
  · refine o_okB (s_MM_set hn I1 r1) ?_
    intro q7 ⟨a1, a2, a3, a4⟩
    exact o_okS ⟨NF_trans NF_pp a1, by show NP_pat Np < NP_pat q7; rw [a2]; exact p2, fun z => absurd (show (0:Int32) ≤ -1 from z) (by decide), a4⟩
  refine o_okI (fun c69 => ?_) (fun c69 => ?_)
  · exact o_okS (hleaf _ _)
  refine o_okI (fun c70 => ?_) (fun c70 => ?_)
  · exact o_okS (hleaf _ _)
  refine o_okI (fun c71 => ?_) (fun c71 => ?_)
  · exact o_okS (hleaf _ _)
  refine o_okI (fun c72 => ?_) (fun c72 => ?_)
  · exact o_okS (hleaf _ _)
  refine o_okI (fun c73 => ?_) (fun c73 => ?_)
  · exact o_okS (hleaf _ _)
  refine o_okI (fun c74 => ?_) (fun c74 => ?_)
  · exact o_okS (hleaf _ _)
  refine o_okI (fun c75 => ?_) (fun c75 => ?_)
  · exact o_okS (hleaf _ _)
  refine o_okI (fun c76 => ?_) (fun c76 => ?_)
  · exact o_okS (hleaf _ _)
  refine o_okI (fun c77 => ?_) (fun c77 => ?_)
  · exact o_okS (hleaf _ _)
  refine o_okI (fun c78 => ?_) (fun c78 => ?_)
  · exact o_okS (hleaf _ _)
  refine o_okI (fun c79 => ?_) (fun c79 => ?_)
  · exact o_okS (hleaf _ _)
  refine o_okI (fun c80 => ?_) (fun c80 => ?_)
  · exact o_okS (hleaf _ _)
  refine o_okI (fun c81 => ?_) (fun c81 => ?_)
  · exact o_okS (hleaf _ _)
  refine o_okI (fun c82 => ?_) (fun c82 => ?_)
  · exact o_okS (hleaf _ _)
  refine o_okI (fun c83 => ?_) (fun c83 => ?_)
  · refine o_okB (s_MM_set hn I1 r1) ?_
    intro q8 ⟨a1, a2, a3, a4⟩
    exact o_okS ⟨NF_trans NF_pp a1, by show NP_pat Np < NP_pat q8; rw [a2]; exact p2, fun z => absurd (show (0:Int32) ≤ -1 from z) (by decide), a4⟩
  refine o_okI (fun c84 => ?_) (fun c84 => ?_)
  · exact o_okS (hleaf _ _)
  refine o_okI (fun c85 => ?_) (fun c85 => ?_)
  · refine o_okB (s_MM_unicode hn h_tc t_tc I1) ?_
    intro q9 ⟨a1, a2, a3, a4⟩
    exact o_okS (hnum q9.1 _ a1 a2 a3 a4)
  refine o_okI (fun c86 => ?_) (fun c86 => ?_)
  · exact o_okS (hleaf _ _)
  refine o_okI (fun c87 => ?_) (fun c87 => ?_)
  · refine o_okB (s_MM_set hn I1 r1) ?_
    intro q10 ⟨a1, a2, a3, a4⟩
    exact o_okS ⟨NF_trans NF_pp a1, by show NP_pat Np < NP_pat q10; rw [a2]; exact p2, fun z => absurd (show (0:Int32) ≤ -1 from z) (by decide), a4⟩
  refine o_okI (fun c88 => ?_) (fun c88 => ?_)
  · refine o_okB (s_MM_hex hn h_tc t_tc I1) ?_
    intro q11 ⟨a1, a2, a3, a4⟩
    exact o_okS (hnum q11.1 _ a1 a2 a3 a4)
  refine o_okI (fun c89 => ?_) (fun c89 => ?_)
  · exact o_okS (hleaf _ _)
  refine o_okI (fun c90 => ?_) (fun c90 => ?_)
  · exact o_okS (hleaf _ _)
  refine o_okI (fun c91 => ?_) (fun c91 => ?_)
  · exact o_okS (hleaf _ _)
  refine o_okI (fun c92 => ?_) (fun c92 => ?_)
  · exact o_okS (hleaf _ _)
  refine o_okI (fun c93 => ?_) (fun c93 => ?_)
  · exact o_okS (hleaf _ _)
  exact o_okS (hleaf _ _)
theorem dig10 {v r : Int32} (h0 : 0 ≤ v) (h1 : v ≤ 999) (r0 : 48 ≤ r) (r1 : r ≤ 57) : 0 ≤ 10 * v + r - 48 ∧ 10 * v + r - 48 ≤ 1000000 ∧ (v = 0 → 10 * v + r - 48 ≤ 9) ∧ (v ≤ 9 → 10 * v + r - 48 ≤ 99) ∧ (v ≤ 99 → 10 * v + r - 48 ≤ 999) := by
  have a0 := Int32.le_iff_toInt_le.mp h0
  have a1 := Int32.le_iff_toInt_le.mp h1
  have a2 := Int32.le_iff_toInt_le.mp r0
  have a3 := Int32.le_iff_toInt_le.mp r1
  have z0 : (0 : Int32).toInt = 0 := rfl
  have z1 : (999 : Int32).toInt = 999 := rfl
  have z2 : (48 : Int32).toInt = 48 := rfl
  have z3 : (57 : Int32).toInt = 57 := rfl
  have z4 : (10 : Int32).toInt = 10 := rfl
  have z5 : (1000000 : Int32).toInt = 1000000 := rfl
  have z6 : (9 : Int32).toInt = 9 := rfl
  have z7 : (99 : Int32).toInt = 99 := rfl
  rw [z0] at a0
  rw [z1] at a1
  rw [z2] at a2
  rw [z3] at a3
  have m1 : (10 * v).toInt = 10 * v.toInt := by
    rw [Int32.toInt_mul, z4]
    apply Int.bmod_eq_of_le <;> omega
  have m2 : (10 * v + r).toInt = 10 * v.toInt + r.toInt := by
    rw [Int32.toInt_add, m1]
    apply Int.bmod_eq_of_le <;> omega
  have m3 : (10 * v + r - 48).toInt = 10 * v.toInt + r.toInt - 48 := by
    rw [Int32.toInt_sub, m2, z2]
    apply Int.bmod_eq_of_le <;> omega
  simp only [Int32.le_iff_toInt_le, m3, z0, z1, z5, z6, z7]
  refine ⟨by omega, by omega, fun h => ?_, fun h => by omega, fun h => by omega⟩
  rw [h, z0]; omega
theorem s_MM_item {n : Nat} {tc : SMT} {Np : SNP} (hn : o_big ≤ n) (h_tc : I_MT tc) (t_tc : T_MT tc) (h_Np : I_NP Np) (p0 : NP_pat Np < NP_patEnd Np) : o_ok (m_MM_item n tc Np) (fun r => NF Np r.2 ∧ NP_pat Np < NP_pat r.2 ∧ (0 ≤ r.1 → NP_ranges r.2 + 1 ≤ 6 * NP_pat r.2) ∧ I_NP r.2) := by
  have i := sc_NP h_Np
  have I1 := I_pat1 (b := NP_broken Np) h_Np p0
  have p2 : NP_pat Np < NP_pat Np + 1 := by clear h_Np I1; grind
  have r1 : NP_ranges Np + 6 ≤ 6 * (NP_pat Np + 1) := by clear h_Np I1; grind
  unfold m_MM_item
  refine o_okB (s_MM_p h_tc t_tc h_Np (by decide) (by decide)) ?_
  intro q1 _
  refine o_okI (fun c => ?_) (fun c => ?_)
  · refine o_okB (s_MM_escape hn h_tc t_tc I1 (by show NP_pat Np + 1 ≤ 4000; clear h_Np I1; grind) r1) ?_
    intro q2 ⟨a1, a2, a3, a4⟩
    exact o_okS ⟨NF_trans NF_pp a1, Int32.lt_trans p2 a2, a3, a4⟩
  · exact o_okS ⟨NF_pp, p2, fun _ => by show NP_ranges Np + 1 ≤ 6 * (NP_pat Np + 1); clear h_Np I1; grind, I1⟩
theorem s_MM_close {x1 : Int32} {x2 : Int32} {Np : SNP} (h_Np : I_NP Np) (p0 : NP_sets Np + 1 ≤ NP_pat Np) (p1 : NP_nodes Np < 15000) (p2 : 0 ≤ x1) (p3 : x1 ≤ 48000) : o_ok (m_MM_close x1 x2 Np) (fun r => r.1 = NP_nodes Np ∧ ADN Np r.2 1 (NP_sets Np) ∧ I_NP r.2 ∧ NP_sets r.2 = NP_sets Np + 1 ∧ NP_pat r.2 = NP_pat Np ∧ NP_broken r.2 = NP_broken Np) := by
  have i := sc_NP h_Np
  have g : o_in (NP_sets Np) 8000 = true := o_inM (m := 8000) rfl i.2.2.2.2.2.1 (by clear h_Np; grind)
  have s1 : 0 ≤ NP_sets Np + 1 := by clear h_Np; grind
  have r1 : NP_ranges Np ≤ 48000 := by clear h_Np; grind
  have I1 : I_NP (NP_mk (NP_nodeKind Np) (NP_nodeA Np) (NP_nodeB Np) (NP_nodeC Np) (NP_nodeNext Np) (NP_low Np) (NP_high Np) (upd (NP_setFrom Np) (NP_sets Np).toNatClampNeg x1) (upd (NP_setTo Np) (NP_sets Np).toNatClampNeg (NP_ranges Np)) (upd (NP_setNot Np) (NP_sets Np).toNatClampNeg (vp_nar .boolean x2)) (NP_nodes Np) ((NP_sets Np) + (1:Int32)) (NP_ranges Np) (NP_pat Np) (NP_patEnd Np) (NP_broken Np)) := ⟨h_Np.1, h_Np.2.1, h_Np.2.2.1, h_Np.2.2.2.1, h_Np.2.2.2.2.1, s1, p0, h_Np.2.2.2.2.2.2.2.1, h_Np.2.2.2.2.2.2.2.2.1, o_bnU h_Np.2.2.2.2.2.2.2.2.2.1 p2 p3, o_bnU h_Np.2.2.2.2.2.2.2.2.2.2 i.2.2.2.2.2.2.2.1 r1⟩
  unfold m_MM_close
  refine o_okG g (o_okG g (o_okG g ?_))
  refine o_okB (s_MM_node I1 p1) ?_
  intro q ⟨a1, a2, a3, a4, a5, a6, a7⟩
  exact o_okS ⟨a1, a2, a3, a4, a5, a6⟩
set_option maxHeartbeats 8000000 in
theorem s_MM_choice_b45 {n : Nat} {x1 : Int32} {x2 : Int32} {tc : SMT} {z : SNP} {s0 : SNP} (hn : o_big ≤ n) (h_tc : I_MT tc) (t_tc : T_MT tc) (l0 : NF s0 z) (l1 : NP_pat s0 ≤ NP_pat z) (l2 : I_NP z) : o_ok (m_MM_choice_b45 n x1 x2 tc z) (fun q => (q.1 = 0 → NF s0 q.2 ∧ NP_pat s0 ≤ NP_pat q.2 ∧ I_NP q.2 ∧ o_mu (NP_pat q.2) < o_mu (NP_pat z)) ∧ (q.1 ≠ 0 → NF s0 q.2 ∧ NP_pat s0 ≤ NP_pat q.2 ∧ (q.1 ≠ 1 → q.1 ≠ 2 → q.1 ≠ 3 → NP_broken q.2 = 0 → NP_pat q.2 < NP_patEnd q.2) ∧ I_NP q.2)) := by
  unfold m_MM_choice_b45
  refine o_okI (fun c1 => ?_) (fun c1 => ?_)
  · refine o_okB (s_MM_p  h_tc t_tc l2 (by first | with_reducible exact True.intro | with_reducible assumption | grind [-Prod, → sc_NF] | grind [-Prod, → sc_MT, → sc_NP, → sc_NF] | grind [-Prod, I_MT, I_NP, o_bn, upd, → sc_NF]) (by first | with_reducible exact True.intro | with_reducible assumption | grind [-Prod, → sc_NF] | grind [-Prod, → sc_MT, → sc_NP, → sc_NF] | grind [-Prod, I_MT, I_NP, o_bn, upd, → sc_NF])) ?_
    intro q3_2 g3
    refine o_okI (fun c4 => ?_) (fun c4 => ?_)
    · refine o_okS ?_
      refine ⟨fun h => absurd (show (4 : Nat) = 0 from h) (by decide), fun _ => ?_⟩
      refine ⟨?_, ?_, ?_, ?_⟩
      · exact l0
      · first | with_reducible exact True.intro | with_reducible assumption | grind [-Prod, → sc_NF] | grind [-Prod, → sc_MT, → sc_NP, → sc_NF] | grind [-Prod, I_MT, I_NP, o_bn, upd, → sc_NF]
      · first | with_reducible exact True.intro | with_reducible assumption | grind [-Prod, → sc_NF] | grind [-Prod, → sc_MT, → sc_NP, → sc_NF] | grind [-Prod, I_MT, I_NP, o_bn, upd, → sc_NF]
      · exact l2
    · refine o_okI (fun c5 => ?_) (fun c5 => ?_)
      · refine o_okB (s_MM_item  hn h_tc t_tc l2 (by first | with_reducible exact True.intro | with_reducible assumption | grind [-Prod, → sc_NF] | grind [-Prod, → sc_MT, → sc_NP, → sc_NF] | grind [-Prod, I_MT, I_NP, o_bn, upd, → sc_NF])) ?_
        intro q4_6 ⟨g7, g8, g9, g10⟩
        refine o_okI (fun c11 => ?_) (fun c11 => ?_)
        · refine o_okB (s_MM_p  h_tc t_tc g10 (by first | with_reducible exact True.intro | with_reducible assumption | grind [-Prod, → sc_NF] | grind [-Prod, → sc_MT, → sc_NP, → sc_NF] | grind [-Prod, I_MT, I_NP, o_bn, upd, → sc_NF]) (by first | with_reducible exact True.intro | with_reducible assumption | grind [-Prod, → sc_NF] | grind [-Prod, → sc_MT, → sc_NP, → sc_NF] | grind [-Prod, I_MT, I_NP, o_bn, upd, → sc_NF])) ?_
          intro q5_12 g13
          refine o_okI (fun c14 => ?_) (fun c14 => ?_)
          · refine o_okB (s_MM_p  h_tc t_tc g10 (by first | with_reducible exact True.intro | with_reducible assumption | grind [-Prod, → sc_NF] | grind [-Prod, → sc_MT, → sc_NP, → sc_NF] | grind [-Prod, I_MT, I_NP, o_bn, upd, → sc_NF]) (by first | with_reducible exact True.intro | with_reducible assumption | grind [-Prod, → sc_NF] | grind [-Prod, → sc_MT, → sc_NP, → sc_NF] | grind [-Prod, I_MT, I_NP, o_bn, upd, → sc_NF])) ?_
            intro q7_15 g16
            refine o_okI (fun c17 => ?_) (fun c17 => ?_)
            · unfold m_MM_choice_j123
              refine o_okI (fun c18 => ?_) (fun c18 => ?_)
              · refine o_okS ?_
                refine ⟨fun _ => ?_, fun h => absurd rfl h⟩
                refine ⟨?_, ?_, ?_, ?_⟩
                · exact (NF_trans l0 g7)
                · first | with_reducible exact True.intro | with_reducible assumption | grind [-Prod, → sc_NF] | grind [-Prod, → sc_MT, → sc_NP, → sc_NF] | grind [-Prod, I_MT, I_NP, o_bn, upd, → sc_NF]
                · exact g10
                · first | exact o_muL (by first | with_reducible exact True.intro | with_reducible assumption | grind [-Prod, → sc_NF] | grind [-Prod, → sc_MT, → sc_NP, → sc_NF] | grind [-Prod, I_MT, I_NP, o_bn, upd, → sc_NF]) | exact o_nuL (by first | with_reducible exact True.intro | with_reducible assumption | grind [-Prod, → sc_NF] | grind [-Prod, → sc_MT, → sc_NP, → sc_NF] | grind [-Prod, I_MT, I_NP, o_bn, upd, → sc_NF]) | (first | with_reducible exact True.intro | with_reducible assumption | grind [-Prod, → sc_NF] | grind [-Prod, → sc_MT, → sc_NP, → sc_NF] | grind [-Prod, I_MT, I_NP, o_bn, upd, → sc_NF])
              · refine o_okB (s_MM_range  g10 (by first | with_reducible exact True.intro | with_reducible assumption | grind [-Prod, → sc_NF] | grind [-Prod, → sc_MT, → sc_NP, → sc_NF] | grind [-Prod, I_MT, I_NP, o_bn, upd, → sc_NF])) ?_
                intro q6_19 ⟨g20, g21, g22, g23, g24⟩
                refine o_okS ?_
                refine ⟨fun _ => ?_, fun h => absurd rfl h⟩
                refine ⟨?_, ?_, ?_, ?_⟩
                · exact (NF_trans (NF_trans l0 g7) g20)
                · first | with_reducible exact True.intro | with_reducible assumption | grind [-Prod, → sc_NF] | grind [-Prod, → sc_MT, → sc_NP, → sc_NF] | grind [-Prod, I_MT, I_NP, o_bn, upd, → sc_NF]
                · exact g24
                · first | exact o_muL (by first | with_reducible exact True.intro | with_reducible assumption | grind [-Prod, → sc_NF] | grind [-Prod, → sc_MT, → sc_NP, → sc_NF] | grind [-Prod, I_MT, I_NP, o_bn, upd, → sc_NF]) | exact o_nuL (by first | with_reducible exact True.intro | with_reducible assumption | grind [-Prod, → sc_NF] | grind [-Prod, → sc_MT, → sc_NP, → sc_NF] | grind [-Prod, I_MT, I_NP, o_bn, upd, → sc_NF]) | (first | with_reducible exact True.intro | with_reducible assumption | grind [-Prod, → sc_NF] | grind [-Prod, → sc_MT, → sc_NP, → sc_NF] | grind [-Prod, I_MT, I_NP, o_bn, upd, → sc_NF])
            · refine o_okB (s_MM_p  h_tc t_tc g10 (by first | with_reducible exact True.intro | with_reducible assumption | grind [-Prod, → sc_NF] | grind [-Prod, → sc_MT, → sc_NP, → sc_NF] | grind [-Prod, I_MT, I_NP, o_bn, upd, → sc_NF]) (by first | with_reducible exact True.intro | with_reducible assumption | grind [-Prod, → sc_NF] | grind [-Prod, → sc_MT, → sc_NP, → sc_NF] | grind [-Prod, I_MT, I_NP, o_bn, upd, → sc_NF])) ?_
              intro q8_25 g26
              refine o_okI (fun c27 => ?_) (fun c27 => ?_)
              · refine o_okB (s_MM_item  hn h_tc t_tc (I_patU g10 (by first | with_reducible exact True.intro | with_reducible assumption | grind [-Prod, → sc_NF] | grind [-Prod, → sc_MT, → sc_NP, → sc_NF] | grind [-Prod, I_MT, I_NP, o_bn, upd, → sc_NF])) (by first | with_reducible exact True.intro | with_reducible assumption | grind [-Prod, → sc_NF] | grind [-Prod, → sc_MT, → sc_NP, → sc_NF] | grind [-Prod, I_MT, I_NP, o_bn, upd, → sc_NF])) ?_
                intro q9_28 ⟨g29, g30, g31, g32⟩
                refine o_okI (fun c33 => ?_) (fun c33 => ?_)
                · refine o_okI (fun c34 => ?_) (fun c34 => ?_)
                  · refine o_okS ?_
                    refine ⟨fun h => absurd (show (3 : Nat) = 0 from h) (by decide), fun _ => ?_⟩
                    refine ⟨?_, ?_, ?_, ?_⟩
                    · exact (NF_trans (NF_trans (NF_trans l0 g7) (show NF (q4_6.2) _ from ⟨rfl, rfl, rfl, rfl, rfl, rfl, rfl, rfl⟩)) g29)
                    · first | with_reducible exact True.intro | with_reducible assumption | grind [-Prod, → sc_NF] | grind [-Prod, → sc_MT, → sc_NP, → sc_NF] | grind [-Prod, I_MT, I_NP, o_bn, upd, → sc_NF]
                    · first | with_reducible exact True.intro | with_reducible assumption | grind [-Prod, → sc_NF] | grind [-Prod, → sc_MT, → sc_NP, → sc_NF] | grind [-Prod, I_MT, I_NP, o_bn, upd, → sc_NF]
                    · exact g32
                  · refine o_okI (fun c35 => ?_) (fun c35 => ?_)
                    · refine o_okS ?_
                      refine ⟨fun h => absurd (show (3 : Nat) = 0 from h) (by decide), fun _ => ?_⟩
                      refine ⟨?_, ?_, ?_, ?_⟩
                      · exact (NF_trans (NF_trans (NF_trans l0 g7) (show NF (q4_6.2) _ from ⟨rfl, rfl, rfl, rfl, rfl, rfl, rfl, rfl⟩)) g29)
                      · first | with_reducible exact True.intro | with_reducible assumption | grind [-Prod, → sc_NF] | grind [-Prod, → sc_MT, → sc_NP, → sc_NF] | grind [-Prod, I_MT, I_NP, o_bn, upd, → sc_NF]
                      · first | with_reducible exact True.intro | with_reducible assumption | grind [-Prod, → sc_NF] | grind [-Prod, → sc_MT, → sc_NP, → sc_NF] | grind [-Prod, I_MT, I_NP, o_bn, upd, → sc_NF]
                      · exact g32
                    · refine o_okI (fun c36 => ?_) (fun c36 => ?_)
                      · refine o_okB (s_MM_range  g32 (by first | with_reducible exact True.intro | with_reducible assumption | grind [-Prod, → sc_NF] | grind [-Prod, → sc_MT, → sc_NP, → sc_NF] | grind [-Prod, I_MT, I_NP, o_bn, upd, → sc_NF])) ?_
                        intro q10_37 ⟨g38, g39, g40, g41, g42⟩
                        refine o_okS ?_
                        refine ⟨fun _ => ?_, fun h => absurd rfl h⟩
                        refine ⟨?_, ?_, ?_, ?_⟩
                        · exact (NF_trans (NF_trans (NF_trans (NF_trans l0 g7) (show NF (q4_6.2) _ from ⟨rfl, rfl, rfl, rfl, rfl, rfl, rfl, rfl⟩)) g29) g38)
                        · first | with_reducible exact True.intro | with_reducible assumption | grind [-Prod, → sc_NF] | grind [-Prod, → sc_MT, → sc_NP, → sc_NF] | grind [-Prod, I_MT, I_NP, o_bn, upd, → sc_NF]
                        · exact g42
                        · first | exact o_muL (by first | with_reducible exact True.intro | with_reducible assumption | grind [-Prod, → sc_NF] | grind [-Prod, → sc_MT, → sc_NP, → sc_NF] | grind [-Prod, I_MT, I_NP, o_bn, upd, → sc_NF]) | exact o_nuL (by first | with_reducible exact True.intro | with_reducible assumption | grind [-Prod, → sc_NF] | grind [-Prod, → sc_MT, → sc_NP, → sc_NF] | grind [-Prod, I_MT, I_NP, o_bn, upd, → sc_NF]) | (first | with_reducible exact True.intro | with_reducible assumption | grind [-Prod, → sc_NF] | grind [-Prod, → sc_MT, → sc_NP, → sc_NF] | grind [-Prod, I_MT, I_NP, o_bn, upd, → sc_NF])
                      · refine o_okS ?_
                        refine ⟨fun h => absurd (show (3 : Nat) = 0 from h) (by decide), fun _ => ?_⟩
                        refine ⟨?_, ?_, ?_, ?_⟩
                        · exact (NF_trans (NF_trans (NF_trans l0 g7) (show NF (q4_6.2) _ from ⟨rfl, rfl, rfl, rfl, rfl, rfl, rfl, rfl⟩)) g29)
                        · first | with_reducible exact True.intro | with_reducible assumption | grind [-Prod, → sc_NF] | grind [-Prod, → sc_MT, → sc_NP, → sc_NF] | grind [-Prod, I_MT, I_NP, o_bn, upd, → sc_NF]
                        · first | with_reducible exact True.intro | with_reducible assumption | grind [-Prod, → sc_NF] | grind [-Prod, → sc_MT, → sc_NP, → sc_NF] | grind [-Prod, I_MT, I_NP, o_bn, upd, → sc_NF]
                        · exact g32
                · refine o_okS ?_
                  refine ⟨fun h => absurd (show (3 : Nat) = 0 from h) (by decide), fun _ => ?_⟩
                  refine ⟨?_, ?_, ?_, ?_⟩
                  · exact (NF_trans (NF_trans (NF_trans l0 g7) (show NF (q4_6.2) _ from ⟨rfl, rfl, rfl, rfl, rfl, rfl, rfl, rfl⟩)) g29)
                  · first | with_reducible exact True.intro | with_reducible assumption | grind [-Prod, → sc_NF] | grind [-Prod, → sc_MT, → sc_NP, → sc_NF] | grind [-Prod, I_MT, I_NP, o_bn, upd, → sc_NF]
                  · first | with_reducible exact True.intro | with_reducible assumption | grind [-Prod, → sc_NF] | grind [-Prod, → sc_MT, → sc_NP, → sc_NF] | grind [-Prod, I_MT, I_NP, o_bn, upd, → sc_NF]
                  · exact g32
              · unfold m_MM_choice_j123
                refine o_okI (fun c43 => ?_) (fun c43 => ?_)
                · refine o_okS ?_
                  refine ⟨fun _ => ?_, fun h => absurd rfl h⟩
                  refine ⟨?_, ?_, ?_, ?_⟩
                  · exact (NF_trans l0 g7)
                  · first | with_reducible exact True.intro | with_reducible assumption | grind [-Prod, → sc_NF] | grind [-Prod, → sc_MT, → sc_NP, → sc_NF] | grind [-Prod, I_MT, I_NP, o_bn, upd, → sc_NF]
                  · exact g10
                  · first | exact o_muL (by first | with_reducible exact True.intro | with_reducible assumption | grind [-Prod, → sc_NF] | grind [-Prod, → sc_MT, → sc_NP, → sc_NF] | grind [-Prod, I_MT, I_NP, o_bn, upd, → sc_NF]) | exact o_nuL (by first | with_reducible exact True.intro | with_reducible assumption | grind [-Prod, → sc_NF] | grind [-Prod, → sc_MT, → sc_NP, → sc_NF] | grind [-Prod, I_MT, I_NP, o_bn, upd, → sc_NF]) | (first | with_reducible exact True.intro | with_reducible assumption | grind [-Prod, → sc_NF] | grind [-Prod, → sc_MT, → sc_NP, → sc_NF] | grind [-Prod, I_MT, I_NP, o_bn, upd, → sc_NF])
                · refine o_okB (s_MM_range  g10 (by first | with_reducible exact True.intro | with_reducible assumption | grind [-Prod, → sc_NF] | grind [-Prod, → sc_MT, → sc_NP, → sc_NF] | grind [-Prod, I_MT, I_NP, o_bn, upd, → sc_NF])) ?_
                  intro q6_44 ⟨g45, g46, g47, g48, g49⟩
                  refine o_okS ?_
                  refine ⟨fun _ => ?_, fun h => absurd rfl h⟩
                  refine ⟨?_, ?_, ?_, ?_⟩
                  · exact (NF_trans (NF_trans l0 g7) g45)
                  · first | with_reducible exact True.intro | with_reducible assumption | grind [-Prod, → sc_NF] | grind [-Prod, → sc_MT, → sc_NP, → sc_NF] | grind [-Prod, I_MT, I_NP, o_bn, upd, → sc_NF]
                  · exact g49
                  · first | exact o_muL (by first | with_reducible exact True.intro | with_reducible assumption | grind [-Prod, → sc_NF] | grind [-Prod, → sc_MT, → sc_NP, → sc_NF] | grind [-Prod, I_MT, I_NP, o_bn, upd, → sc_NF]) | exact o_nuL (by first | with_reducible exact True.intro | with_reducible assumption | grind [-Prod, → sc_NF] | grind [-Prod, → sc_MT, → sc_NP, → sc_NF] | grind [-Prod, I_MT, I_NP, o_bn, upd, → sc_NF]) | (first | with_reducible exact True.intro | with_reducible assumption | grind [-Prod, → sc_NF] | grind [-Prod, → sc_MT, → sc_NP, → sc_NF] | grind [-Prod, I_MT, I_NP, o_bn, upd, → sc_NF])
          · unfold m_MM_choice_j123
            refine o_okI (fun c50 => ?_) (fun c50 => ?_)
            · refine o_okS ?_
              refine ⟨fun _ => ?_, fun h => absurd rfl h⟩
              refine ⟨?_, ?_, ?_, ?_⟩
              · exact (NF_trans l0 g7)
              · first | with_reducible exact True.intro | with_reducible assumption | grind [-Prod, → sc_NF] | grind [-Prod, → sc_MT, → sc_NP, → sc_NF] | grind [-Prod, I_MT, I_NP, o_bn, upd, → sc_NF]
              · exact g10
              · first | exact o_muL (by first | with_reducible exact True.intro | with_reducible assumption | grind [-Prod, → sc_NF] | grind [-Prod, → sc_MT, → sc_NP, → sc_NF] | grind [-Prod, I_MT, I_NP, o_bn, upd, → sc_NF]) | exact o_nuL (by first | with_reducible exact True.intro | with_reducible assumption | grind [-Prod, → sc_NF] | grind [-Prod, → sc_MT, → sc_NP, → sc_NF] | grind [-Prod, I_MT, I_NP, o_bn, upd, → sc_NF]) | (first | with_reducible exact True.intro | with_reducible assumption | grind [-Prod, → sc_NF] | grind [-Prod, → sc_MT, → sc_NP, → sc_NF] | grind [-Prod, I_MT, I_NP, o_bn, upd, → sc_NF])
            · refine o_okB (s_MM_range  g10 (by first | with_reducible exact True.intro | with_reducible assumption | grind [-Prod, → sc_NF] | grind [-Prod, → sc_MT, → sc_NP, → sc_NF] | grind [-Prod, I_MT, I_NP, o_bn, upd, → sc_NF])) ?_
              intro q6_51 ⟨g52, g53, g54, g55, g56⟩
              refine o_okS ?_
              refine ⟨fun _ => ?_, fun h => absurd rfl h⟩
              refine ⟨?_, ?_, ?_, ?_⟩
              · exact (NF_trans (NF_trans l0 g7) g52)
              · first | with_reducible exact True.intro | with_reducible assumption | grind [-Prod, → sc_NF] | grind [-Prod, → sc_MT, → sc_NP, → sc_NF] | grind [-Prod, I_MT, I_NP, o_bn, upd, → sc_NF]
              · exact g56
              · first | exact o_muL (by first | with_reducible exact True.intro | with_reducible assumption | grind [-Prod, → sc_NF] | grind [-Prod, → sc_MT, → sc_NP, → sc_NF] | grind [-Prod, I_MT, I_NP, o_bn, upd, → sc_NF]) | exact o_nuL (by first | with_reducible exact True.intro | with_reducible assumption | grind [-Prod, → sc_NF] | grind [-Prod, → sc_MT, → sc_NP, → sc_NF] | grind [-Prod, I_MT, I_NP, o_bn, upd, → sc_NF]) | (first | with_reducible exact True.intro | with_reducible assumption | grind [-Prod, → sc_NF] | grind [-Prod, → sc_MT, → sc_NP, → sc_NF] | grind [-Prod, I_MT, I_NP, o_bn, upd, → sc_NF])
        · refine o_okS ?_
          refine ⟨fun h => absurd (show (2 : Nat) = 0 from h) (by decide), fun _ => ?_⟩
          refine ⟨?_, ?_, ?_, ?_⟩
          · exact (NF_trans l0 g7)
          · first | with_reducible exact True.intro | with_reducible assumption | grind [-Prod, → sc_NF] | grind [-Prod, → sc_MT, → sc_NP, → sc_NF] | grind [-Prod, I_MT, I_NP, o_bn, upd, → sc_NF]
          · first | with_reducible exact True.intro | with_reducible assumption | grind [-Prod, → sc_NF] | grind [-Prod, → sc_MT, → sc_NP, → sc_NF] | grind [-Prod, I_MT, I_NP, o_bn, upd, → sc_NF]
          · exact g10
      · refine o_okS ?_
        refine ⟨fun h => absurd (show (1 : Nat) = 0 from h) (by decide), fun _ => ?_⟩
        refine ⟨?_, ?_, ?_, ?_⟩
        · exact l0
        · first | with_reducible exact True.intro | with_reducible assumption | grind [-Prod, → sc_NF] | grind [-Prod, → sc_MT, → sc_NP, → sc_NF] | grind [-Prod, I_MT, I_NP, o_bn, upd, → sc_NF]
        · first | with_reducible exact True.intro | with_reducible assumption | grind [-Prod, → sc_NF] | grind [-Prod, → sc_MT, → sc_NP, → sc_NF] | grind [-Prod, I_MT, I_NP, o_bn, upd, → sc_NF]
        · exact l2
  · refine o_okS ?_
    refine ⟨fun h => absurd (show (4 : Nat) = 0 from h) (by decide), fun _ => ?_⟩
    refine ⟨?_, ?_, ?_, ?_⟩
    · exact l0
    · first | with_reducible exact True.intro | with_reducible assumption | grind [-Prod, → sc_NF] | grind [-Prod, → sc_MT, → sc_NP, → sc_NF] | grind [-Prod, I_MT, I_NP, o_bn, upd, → sc_NF]
    · first | with_reducible exact True.intro | with_reducible assumption | grind [-Prod, → sc_NF] | grind [-Prod, → sc_MT, → sc_NP, → sc_NF] | grind [-Prod, I_MT, I_NP, o_bn, upd, → sc_NF]
    · exact l2
theorem l_MM_choice_b45 {n : Nat} {x1 : Int32} {x2 : Int32} {tc : SMT} {z : SNP} {s0 : SNP} (hn : o_big ≤ n) (h_tc : I_MT tc) (t_tc : T_MT tc) (l0 : NF s0 z) (l1 : NP_pat s0 ≤ NP_pat z) (l2 : I_NP z) : o_ok (o_lp n (m_MM_choice_b45 n x1 x2 tc) z) (fun q => q.1 ≠ 0 ∧ NF s0 q.2 ∧ NP_pat s0 ≤ NP_pat q.2 ∧ (q.1 ≠ 1 → q.1 ≠ 2 → q.1 ≠ 3 → NP_broken q.2 = 0 → NP_pat q.2 < NP_patEnd q.2) ∧ I_NP q.2) := by
  exact o_lpR (fun z => NF s0 z ∧ NP_pat s0 ≤ NP_pat z ∧ I_NP z) (fun z => o_mu (NP_pat z)) hn (o_muB) ⟨l0, l1, l2⟩
    (fun z hz => by obtain ⟨l0, l1, l2⟩ := hz; exact o_okW (s_MM_choice_b45 (s0 := s0) hn h_tc t_tc l0 l1 l2) (fun q hq => ⟨fun h => by have := hq.1 h; grind, hq.2⟩))
theorem s_MM_choice_j40 {n : Nat} {x1 : Int32} {tc : SMT} {Np : SNP} (hn : o_big ≤ n) (h_tc : I_MT tc) (t_tc : T_MT tc) (h_Np : I_NP Np) (p0 : NP_nodes Np < 15000) (p1 : NP_sets Np + 1 ≤ NP_pat Np) : o_ok (m_MM_choice_j40 n x1 tc Np) (fun r => I_NP r.2 ∧ NP_nodes r.2 = NP_nodes Np + 1 ∧ NP_pat Np ≤ NP_pat r.2 ∧ r.1 = NP_nodes Np ∧ (NP_broken r.2 = 0 → ADN Np r.2 1 (NP_sets Np) ∧ NP_sets r.2 = NP_sets Np + 1)) := by
  have i := sc_NP h_Np
  unfold m_MM_choice_j40
  refine o_okB (s_MM_begin h_Np) ?_
  intro q2 e2
  refine o_okB (l_MM_choice_b45 (s0 := Np) hn h_tc t_tc NF_rfl (Int32.le_refl _) h_Np) ?_
  intro q ⟨y, a1, a2, a3, a4⟩
  have en := a1.2.2.2.2.2.1
  have es := a1.2.2.2.2.2.2.1
  have j := sc_NP a4
  have hno : o_ok (o_bd (m_MM_no q.2) fun q => some (q.1, q.2)) (fun r => I_NP r.2 ∧ NP_nodes r.2 = NP_nodes Np + 1 ∧ NP_pat Np ≤ NP_pat r.2 ∧ r.1 = NP_nodes Np ∧ (NP_broken r.2 = 0 → ADN Np r.2 1 (NP_sets Np) ∧ NP_sets r.2 = NP_sets Np + 1)) := by
    refine o_okB (s_MM_no a4 (by rw [en]; exact p0)) ?_
    intro r ⟨b1, b2, b3, b4, b5⟩
    exact o_okS ⟨b3, by rw [b2, en], by rw [b5]; exact a2, by show r.1 = _; rw [b4, en], fun z => absurd z b1⟩
  refine o_okI (fun c => hno) (fun c1 => ?_)
  refine o_okI (fun c => hno) (fun c2 => ?_)
  refine o_okI (fun c => by unfold m_MM_choice_j174; exact hno) (fun c3 => ?_)
  unfold m_MM_choice_j189
  refine o_okI (fun c => ?_) (fun c => hno)
  have hlt := a3 c1 c2 c3 c
  refine o_okB (s_MM_close (I_pat1 (b := NP_broken q.2) a4 hlt) (by show NP_sets q.2 + 1 ≤ NP_pat q.2 + 1; rw [es]; clear h_Np a1 a4 hno; grind) (by show NP_nodes q.2 < 15000; rw [en]; exact p0) (by rw [e2]; exact i.2.2.2.2.2.2.2.1) (by rw [e2]; clear h_Np a1 a4 hno; grind)) ?_
  intro r ⟨b1, b2, b3, b4, b5, b6⟩
  have n1 : NP_nodes r.2 = NP_nodes q.2 + 1 := (ADN_n b2).1
  have b4 : NP_sets r.2 = NP_sets q.2 + 1 := b4
  have b5 : NP_pat r.2 = NP_pat q.2 + 1 := b5
  have b1 : r.1 = NP_nodes q.2 := b1
  have b2 : ADN (NP_pp q.2 (NP_pat q.2 + 1) (NP_broken q.2)) r.2 1 (NP_sets q.2) := b2
  rw [es] at b2 b4
  refine o_okS ⟨b3, by rw [n1, en], ?_, by show r.1 = _; rw [b1, en], fun _ => ⟨NF_ADN (NF_trans a1 NF_pp) b2, b4⟩⟩
  show NP_pat Np ≤ NP_pat r.2
  rw [b5]; clear h_Np a1 a4 hno b2 b3; grind
theorem s_MM_choice {n : Nat} {tc : SMT} {Np : SNP} (hn : o_big ≤ n) (h_tc : I_MT tc) (t_tc : T_MT tc) (h_Np : I_NP Np) (p0 : NP_nodes Np < 15000) (p1 : NP_sets Np ≤ NP_pat Np) (p2 : NP_pat Np < NP_patEnd Np) : o_ok (m_MM_choice n tc Np) (fun r => I_NP r.2 ∧ NP_nodes r.2 = NP_nodes Np + 1 ∧ NP_pat Np < NP_pat r.2 ∧ r.1 = NP_nodes Np ∧ (NP_broken r.2 = 0 → ADN Np r.2 1 (NP_sets Np) ∧ NP_sets r.2 = NP_sets Np + 1)) := by
  have i := sc_NP h_Np
  have I1 : ∀ b, I_NP (NP_pp Np (NP_pat Np + 1) b) := fun b => I_pat1 h_Np p2
  have fin : ∀ (s1 : SNP) (y : Int32), NF Np s1 → I_NP s1 → NP_pat Np < NP_pat s1 → o_ok (m_MM_choice_j40 n y tc s1) (fun r => I_NP r.2 ∧ NP_nodes r.2 = NP_nodes Np + 1 ∧ NP_pat Np < NP_pat r.2 ∧ r.1 = NP_nodes Np ∧ (NP_broken r.2 = 0 → ADN Np r.2 1 (NP_sets Np) ∧ NP_sets r.2 = NP_sets Np + 1)) := by
    intro s1 y h1 h2 h3
    have en := h1.2.2.2.2.2.1
    have es := h1.2.2.2.2.2.2.1
    have j := sc_NP h2
    refine o_okW (s_MM_choice_j40 hn h_tc t_tc h2 (by rw [en]; exact p0) (by rw [es]; clear h_Np I1 h1 h2; grind)) ?_
    intro r ⟨b1, b2, b3, b4, b5⟩
    refine ⟨b1, by rw [b2, en], Int32.lt_of_lt_of_le h3 b3, by rw [b4, en], fun z => ?_⟩
    obtain ⟨k1, k2⟩ := b5 z
    rw [es] at k1 k2
    exact ⟨NF_ADN h1 k1, k2⟩
  have q1 : NP_pat Np < NP_pat Np + 1 := by clear h_Np I1 fin; grind
  unfold m_MM_choice
  refine o_okB (s_MM_p h_tc t_tc (I1 _) (by decide) (by decide)) ?_
  intro q hq
  refine o_okI (fun c => ?_) (fun c => ?_)
  · unfold m_MM_choice_j25
    refine o_okI (fun c2 => absurd c2 (by decide)) (fun _ => ?_)
    have hlt : NP_pat (NP_pp Np (NP_pat Np + 1) (NP_broken Np)) < NP_patEnd (NP_pp Np (NP_pat Np + 1) (NP_broken Np)) := by
      have h := hq (by rw [c]; decide)
      have h : NP_pat Np + 1 + 0 < NP_patEnd Np := h
      show NP_pat Np + 1 < NP_patEnd Np
      clear h_Np I1 fin hq; grind
    refine fin (NP_pp (NP_pp Np (NP_pat Np + 1) (NP_broken Np)) (NP_pat Np + 1 + 1) (NP_broken Np)) 1 (NF_trans NF_pp NF_pp) (I_pat1 (I1 _) hlt) ?_
    show NP_pat Np < NP_pat Np + 1 + 1
    clear h_Np I1 fin hq; grind
  · unfold m_MM_choice_j25
    exact o_okI (fun _ => fin (NP_pp Np (NP_pat Np + 1) (NP_broken Np)) 0 NF_pp (I1 _) q1) (fun c2 => absurd rfl c2)
theorem s_MM_number_b4 {n : Nat} {tc : SMT} {z : Int32 × Int32 × SNP} {s0 : SNP} (hn : o_big ≤ n) (h_tc : I_MT tc) (t_tc : T_MT tc) (l0 : NF s0 z.2.2) (l1 : NP_pat s0 ≤ NP_pat z.2.2) (l2 : 0 ≤ z.1) (l3 : z.1 ≤ 1000000) (l4 : (NP_broken s0 = 0 → NP_broken z.2.2 = 0)) (l5 : 0 ≤ z.2.1) (l6 : z.2.1 ≤ 3) (l7 : (z.2.1 = 0 → z.1 = 0)) (l8 : (z.2.1 = 1 → z.1 ≤ 9)) (l9 : (z.2.1 = 2 → z.1 ≤ 99)) (l10 : (z.2.1 = 3 → z.1 ≤ 999)) (l11 : I_NP z.2.2) : o_ok (m_MM_number_b4 n tc z) (fun q => (q.1 = 0 → NF s0 q.2.2.2 ∧ NP_pat s0 ≤ NP_pat q.2.2.2 ∧ 0 ≤ q.2.1 ∧ q.2.1 ≤ 1000000 ∧ (NP_broken s0 = 0 → NP_broken q.2.2.2 = 0) ∧ 0 ≤ q.2.2.1 ∧ q.2.2.1 ≤ 3 ∧ (q.2.2.1 = 0 → q.2.1 = 0) ∧ (q.2.2.1 = 1 → q.2.1 ≤ 9) ∧ (q.2.2.1 = 2 → q.2.1 ≤ 99) ∧ (q.2.2.1 = 3 → q.2.1 ≤ 999) ∧ I_NP q.2.2.2 ∧ o_mu (NP_pat q.2.2.2) < o_mu (NP_pat z.2.2)) ∧ (q.1 ≠ 0 → NF s0 q.2.2.2 ∧ NP_pat s0 ≤ NP_pat q.2.2.2 ∧ 0 ≤ q.2.1 ∧ (NP_broken s0 = 0 → NP_broken q.2.2.2 = 0) ∧ I_NP q.2.2.2)) := by
  have lI := l11
  have i := sc_NP lI
  obtain ⟨r, er, hr⟩ := s_MM_p (x1 := 0) h_tc t_tc lI (by decide) (by decide)
  have v9 : z.1 ≤ 999 := by
    clear l0 l4 l11 lI er hr h_tc t_tc
    have : z.2.1 = 0 ∨ z.2.1 = 1 ∨ z.2.1 = 2 ∨ z.2.1 = 3 := by grind
    rcases this with h | h | h | h
    · rw [l7 h]; decide
    · exact Int32.le_trans (l8 h) (by decide)
    · exact Int32.le_trans (l9 h) (by decide)
    · exact l10 h
  unfold m_MM_number_b4
  refine o_okB (o_okE er) ?_
  intro q1 e1
  subst e1
  refine o_okB s_MM_in ?_
  intro q2 ⟨_, h2⟩
  refine o_okI (fun c => o_okS ⟨fun h => absurd h (Nat.succ_ne_zero 1), fun _ => ⟨l0, l1, l2, l4, lI⟩⟩) (fun c => ?_)
  obtain ⟨d1, d2⟩ := h2 c
  have hlt : NP_pat z.2.2 < NP_patEnd z.2.2 := by
    have h := hr (by intro e; rw [e] at d1; exact absurd d1 (by decide))
    clear l0 l4 l11 lI er hr h_tc t_tc; grind
  have p1 : NP_pat z.2.2 < NP_pat z.2.2 + 1 := by clear l0 l4 l11 lI er hr h_tc t_tc; grind
  obtain ⟨v1, v2, v3, v4, v5⟩ := dig10 l2 v9 d1 d2
  refine o_okB (o_okE er) ?_
  intro q3 e3
  subst e3
  refine o_okN (fun x ex => o_okN (fun y ey => ?_))
  refine o_okI (fun c3 => o_okS ⟨fun _ => ⟨NF_trans l0 NF_pp, Int32.le_trans l1 (Int32.le_of_lt p1), ?_, ?_, l4, ?_, ?_, ?_, ?_, ?_, ?_, I_pat1 lI hlt, o_muL p1⟩, fun h => absurd rfl h⟩) (fun c3 => o_okS ⟨fun h => absurd h (Nat.succ_ne_zero 0), fun _ => ⟨NF_trans l0 NF_pp, Int32.le_trans l1 (Int32.le_of_lt p1), ?_, l4, I_pat1 lI hlt⟩⟩)
  · show 0 ≤ x
    rw [ex]; exact v1
  · show x ≤ 1000000
    rw [ex]; exact v2
  · show 0 ≤ y
    rw [ey]; clear l0 l4 l11 lI er hr h_tc t_tc ex v1 v2 v3 v4 v5; grind
  · exact c3
  · intro (h : y = 0)
    exfalso
    rw [ey] at h; clear l0 l4 l11 lI er hr h_tc t_tc ex v1 v2 v3 v4 v5; grind
  · intro (h : y = 1)
    show x ≤ 9
    have e0 : z.2.1 = 0 := by rw [ey] at h; clear l0 l4 l11 lI er hr h_tc t_tc ex v1 v2 v3 v4 v5; grind
    rw [ex]; exact v3 (l7 e0)
  · intro (h : y = 2)
    show x ≤ 99
    have e0 : z.2.1 = 1 := by rw [ey] at h; clear l0 l4 l11 lI er hr h_tc t_tc ex v1 v2 v3 v4 v5; grind
    rw [ex]; exact v4 (l8 e0)
  · intro (h : y = 3)
    show x ≤ 999
    have e0 : z.2.1 = 2 := by rw [ey] at h; clear l0 l4 l11 lI er hr h_tc t_tc ex v1 v2 v3 v4 v5; grind
    rw [ex]; exact v5 (l9 e0)
  · show 0 ≤ x
    rw [ex]; exact v1
theorem l_MM_number_b4 {n : Nat} {tc : SMT} {z : Int32 × Int32 × SNP} {s0 : SNP} (hn : o_big ≤ n) (h_tc : I_MT tc) (t_tc : T_MT tc) (l0 : NF s0 z.2.2) (l1 : NP_pat s0 ≤ NP_pat z.2.2) (l2 : 0 ≤ z.1) (l3 : z.1 ≤ 1000000) (l4 : (NP_broken s0 = 0 → NP_broken z.2.2 = 0)) (l5 : 0 ≤ z.2.1) (l6 : z.2.1 ≤ 3) (l7 : (z.2.1 = 0 → z.1 = 0)) (l8 : (z.2.1 = 1 → z.1 ≤ 9)) (l9 : (z.2.1 = 2 → z.1 ≤ 99)) (l10 : (z.2.1 = 3 → z.1 ≤ 999)) (l11 : I_NP z.2.2) : o_ok (o_lp n (m_MM_number_b4 n tc) z) (fun q => q.1 ≠ 0 ∧ NF s0 q.2.2.2 ∧ NP_pat s0 ≤ NP_pat q.2.2.2 ∧ 0 ≤ q.2.1 ∧ (NP_broken s0 = 0 → NP_broken q.2.2.2 = 0) ∧ I_NP q.2.2.2) := by
  exact o_lpR (fun z => NF s0 z.2.2 ∧ NP_pat s0 ≤ NP_pat z.2.2 ∧ 0 ≤ z.1 ∧ z.1 ≤ 1000000 ∧ (NP_broken s0 = 0 → NP_broken z.2.2 = 0) ∧ 0 ≤ z.2.1 ∧ z.2.1 ≤ 3 ∧ (z.2.1 = 0 → z.1 = 0) ∧ (z.2.1 = 1 → z.1 ≤ 9) ∧ (z.2.1 = 2 → z.1 ≤ 99) ∧ (z.2.1 = 3 → z.1 ≤ 999) ∧ I_NP z.2.2) (fun z => o_mu (NP_pat z.2.2)) hn (o_muB) ⟨l0, l1, l2, l3, l4, l5, l6, l7, l8, l9, l10, l11⟩
    (fun z hz => by obtain ⟨l0, l1, l2, l3, l4, l5, l6, l7, l8, l9, l10, l11⟩ := hz; exact o_okW (s_MM_number_b4 (s0 := s0) hn h_tc t_tc l0 l1 l2 l3 l4 l5 l6 l7 l8 l9 l10 l11) (fun q hq => ⟨fun h => by have := hq.1 h; grind, hq.2⟩))
theorem s_MM_number {n : Nat} {tc : SMT} {Np : SNP} (hn : o_big ≤ n) (h_tc : I_MT tc) (t_tc : T_MT tc) (h_Np : I_NP Np) : o_ok (m_MM_number n tc Np) (fun r => NF Np r.2 ∧ NP_pat Np ≤ NP_pat r.2 ∧ (NP_broken r.2 = 0 → 0 ≤ r.1 ∧ r.1 ≤ 50) ∧ I_NP r.2) := by
  unfold m_MM_number
  refine o_okB (l_MM_number_b4 (s0 := Np) hn h_tc t_tc NF_rfl (by first | with_reducible exact True.intro | with_reducible assumption | grind [-Prod, → sc_NF] | grind [-Prod, → sc_MT, → sc_NP, → sc_NF] | grind [-Prod, I_MT, I_NP, o_bn, upd, → sc_NF]) (by first | with_reducible exact True.intro | with_reducible assumption | grind [-Prod, → sc_NF] | grind [-Prod, → sc_MT, → sc_NP, → sc_NF] | grind [-Prod, I_MT, I_NP, o_bn, upd, → sc_NF]) (by first | with_reducible exact True.intro | with_reducible assumption | grind [-Prod, → sc_NF] | grind [-Prod, → sc_MT, → sc_NP, → sc_NF] | grind [-Prod, I_MT, I_NP, o_bn, upd, → sc_NF]) (by first | with_reducible exact True.intro | with_reducible assumption | grind [-Prod, → sc_NF] | grind [-Prod, → sc_MT, → sc_NP, → sc_NF] | grind [-Prod, I_MT, I_NP, o_bn, upd, → sc_NF]) (by first | with_reducible exact True.intro | with_reducible assumption | grind [-Prod, → sc_NF] | grind [-Prod, → sc_MT, → sc_NP, → sc_NF] | grind [-Prod, I_MT, I_NP, o_bn, upd, → sc_NF]) (by first | with_reducible exact True.intro | with_reducible assumption | grind [-Prod, → sc_NF] | grind [-Prod, → sc_MT, → sc_NP, → sc_NF] | grind [-Prod, I_MT, I_NP, o_bn, upd, → sc_NF]) (by first | with_reducible exact True.intro | with_reducible assumption | grind [-Prod, → sc_NF] | grind [-Prod, → sc_MT, → sc_NP, → sc_NF] | grind [-Prod, I_MT, I_NP, o_bn, upd, → sc_NF]) (by first | with_reducible exact True.intro | with_reducible assumption | grind [-Prod, → sc_NF] | grind [-Prod, → sc_MT, → sc_NP, → sc_NF] | grind [-Prod, I_MT, I_NP, o_bn, upd, → sc_NF]) (by first | with_reducible exact True.intro | with_reducible assumption | grind [-Prod, → sc_NF] | grind [-Prod, → sc_MT, → sc_NP, → sc_NF] | grind [-Prod, I_MT, I_NP, o_bn, upd, → sc_NF]) (by first | with_reducible exact True.intro | with_reducible assumption | grind [-Prod, → sc_NF] | grind [-Prod, → sc_MT, → sc_NP, → sc_NF] | grind [-Prod, I_MT, I_NP, o_bn, upd, → sc_NF]) h_Np) ?_
  intro q4_1 ⟨yq4_1, g2, g3, g4, g5, g6⟩
  refine o_okI (fun c7 => ?_) (fun c7 => ?_)
  · refine o_okS ?_
    refine ⟨?_, ?_, ?_, ?_⟩
    · exact (NF_trans g2 (show NF (q4_1.2.2.2) _ from ⟨rfl, rfl, rfl, rfl, rfl, rfl, rfl, rfl⟩))
    · first | with_reducible exact True.intro | with_reducible assumption | grind [-Prod, → sc_NF] | grind [-Prod, → sc_MT, → sc_NP, → sc_NF] | grind [-Prod, I_MT, I_NP, o_bn, upd, → sc_NF]
    · first | with_reducible exact True.intro | with_reducible assumption | grind [-Prod, → sc_NF] | grind [-Prod, → sc_MT, → sc_NP, → sc_NF] | grind [-Prod, I_MT, I_NP, o_bn, upd, → sc_NF]
    · exact (show I_NP _ from g6)
  · refine o_okI (fun c8 => ?_) (fun c8 => ?_)
    · refine o_okS ?_
      refine ⟨?_, ?_, ?_, ?_⟩
      · exact (NF_trans g2 (show NF (q4_1.2.2.2) _ from ⟨rfl, rfl, rfl, rfl, rfl, rfl, rfl, rfl⟩))
      · first | with_reducible exact True.intro | with_reducible assumption | grind [-Prod, → sc_NF] | grind [-Prod, → sc_MT, → sc_NP, → sc_NF] | grind [-Prod, I_MT, I_NP, o_bn, upd, → sc_NF]
      · first | with_reducible exact True.intro | with_reducible assumption | grind [-Prod, → sc_NF] | grind [-Prod, → sc_MT, → sc_NP, → sc_NF] | grind [-Prod, I_MT, I_NP, o_bn, upd, → sc_NF]
      · exact (show I_NP _ from g6)
    · refine o_okI (fun c9 => ?_) (fun c9 => ?_)
      · refine o_okS ?_
        refine ⟨?_, ?_, ?_, ?_⟩
        · exact g2
        · first | with_reducible exact True.intro | with_reducible assumption | grind [-Prod, → sc_NF] | grind [-Prod, → sc_MT, → sc_NP, → sc_NF] | grind [-Prod, I_MT, I_NP, o_bn, upd, → sc_NF]
        · first | with_reducible exact True.intro | with_reducible assumption | grind [-Prod, → sc_NF] | grind [-Prod, → sc_MT, → sc_NP, → sc_NF] | grind [-Prod, I_MT, I_NP, o_bn, upd, → sc_NF]
        · exact g6
      · refine o_okS ?_
        refine ⟨?_, ?_, ?_, ?_⟩
        · exact (NF_trans g2 (show NF (q4_1.2.2.2) _ from ⟨rfl, rfl, rfl, rfl, rfl, rfl, rfl, rfl⟩))
        · first | with_reducible exact True.intro | with_reducible assumption | grind [-Prod, → sc_NF] | grind [-Prod, → sc_MT, → sc_NP, → sc_NF] | grind [-Prod, I_MT, I_NP, o_bn, upd, → sc_NF]
        · first | with_reducible exact True.intro | with_reducible assumption | grind [-Prod, → sc_NF] | grind [-Prod, → sc_MT, → sc_NP, → sc_NF] | grind [-Prod, I_MT, I_NP, o_bn, upd, → sc_NF]
        · exact (show I_NP _ from g6)
