/-! The reference's patterns: bounds, frames -/
def I_NP (s : SNP) : Prop := 0 ≤ NP_pat s ∧ NP_pat s ≤ 4001 ∧ NP_patEnd s ≤ 4000 ∧ 0 ≤ NP_nodes s ∧ NP_nodes s ≤ 15000 ∧ 0 ≤ NP_sets s ∧ NP_sets s ≤ NP_pat s ∧ 0 ≤ NP_ranges s ∧ NP_ranges s ≤ 6 * NP_pat s ∧ o_bn 0 48000 (NP_setFrom s) ∧ o_bn 0 48000 (NP_setTo s)
theorem sc_NP {s : SNP} (h : I_NP s) : 0 ≤ NP_pat s ∧ NP_pat s ≤ 4001 ∧ NP_patEnd s ≤ 4000 ∧ 0 ≤ NP_nodes s ∧ NP_nodes s ≤ 15000 ∧ 0 ≤ NP_sets s ∧ NP_sets s ≤ NP_pat s ∧ 0 ≤ NP_ranges s ∧ NP_ranges s ≤ 6 * NP_pat s := ⟨h.1, h.2.1, h.2.2.1, h.2.2.2.1, h.2.2.2.2.1, h.2.2.2.2.2.1, h.2.2.2.2.2.2.1, h.2.2.2.2.2.2.2.1, h.2.2.2.2.2.2.2.2.1⟩
/-- nodes, sets and the pattern's end are as they were -/
def NF (a b : SNP) : Prop := NP_nodeKind b = NP_nodeKind a ∧ NP_nodeA b = NP_nodeA a ∧ NP_nodeB b = NP_nodeB a ∧ NP_nodeC b = NP_nodeC a ∧ NP_nodeNext b = NP_nodeNext a ∧ NP_nodes b = NP_nodes a ∧ NP_sets b = NP_sets a ∧ NP_patEnd b = NP_patEnd a
theorem NF_rfl {a : SNP} : NF a a := ⟨rfl, rfl, rfl, rfl, rfl, rfl, rfl, rfl⟩
theorem NF_trans {a b c : SNP} (h : NF a b) (g : NF b c) : NF a c := ⟨g.1.trans h.1, g.2.1.trans h.2.1, g.2.2.1.trans h.2.2.1, g.2.2.2.1.trans h.2.2.2.1, g.2.2.2.2.1.trans h.2.2.2.2.1, g.2.2.2.2.2.1.trans h.2.2.2.2.2.1, g.2.2.2.2.2.2.1.trans h.2.2.2.2.2.2.1, g.2.2.2.2.2.2.2.trans h.2.2.2.2.2.2.2⟩
theorem sc_NF {a b : SNP} (h : NF a b) : NP_nodes b = NP_nodes a ∧ NP_sets b = NP_sets a ∧ NP_patEnd b = NP_patEnd a := ⟨h.2.2.2.2.2.1, h.2.2.2.2.2.2.1, h.2.2.2.2.2.2.2⟩
/-- one node more -/
def ADN (a b : SNP) (k x : Int32) : Prop := NP_nodeKind b = upd (NP_nodeKind a) (NP_nodes a).toNatClampNeg k ∧ NP_nodeA b = upd (NP_nodeA a) (NP_nodes a).toNatClampNeg x ∧ NP_nodeB b = upd (NP_nodeB a) (NP_nodes a).toNatClampNeg 0 ∧ NP_nodeC b = upd (NP_nodeC a) (NP_nodes a).toNatClampNeg 0 ∧ NP_nodeNext b = upd (NP_nodeNext a) (NP_nodes a).toNatClampNeg (-1) ∧ NP_nodes b = NP_nodes a + 1 ∧ NP_patEnd b = NP_patEnd a
theorem NF_ADN {a b c : SNP} {k x : Int32} (h : NF a b) (g : ADN b c k x) : ADN a c k x := by
  obtain ⟨a1, a2, a3, a4, a5, a6, a7, a8⟩ := h
  unfold ADN at g ⊢
  rw [a1, a2, a3, a4, a5, a6, a8] at g
  exact g
theorem ADN_n {a b : SNP} {k x : Int32} (h : ADN a b k x) : NP_nodes b = NP_nodes a + 1 ∧ NP_patEnd b = NP_patEnd a := ⟨h.2.2.2.2.2.1, h.2.2.2.2.2.2⟩
theorem o_okE {α : Type} {o : Option α} {v : α} (h : o = some v) : o_ok o (fun r => r = v) := ⟨v, h, rfl⟩
abbrev NP_pp (s : SNP) (a b : Int32) : SNP := NP_mk (NP_nodeKind s) (NP_nodeA s) (NP_nodeB s) (NP_nodeC s) (NP_nodeNext s) (NP_low s) (NP_high s) (NP_setFrom s) (NP_setTo s) (NP_setNot s) (NP_nodes s) (NP_sets s) (NP_ranges s) a (NP_patEnd s) b
theorem I_pat1 {s : SNP} {b : Int32} (h : I_NP s) (hp : NP_pat s < NP_patEnd s) : I_NP (NP_pp s (NP_pat s + 1) b) := by
  have i := sc_NP h
  refine ⟨?_, ?_, h.2.2.1, h.2.2.2.1, h.2.2.2.2.1, h.2.2.2.2.2.1, ?_, h.2.2.2.2.2.2.2.1, ?_, h.2.2.2.2.2.2.2.2.2⟩
  · show 0 ≤ NP_pat s + 1
    clear h; grind
  · show NP_pat s + 1 ≤ 4001
    clear h; grind
  · show NP_sets s ≤ NP_pat s + 1
    clear h; grind
  · show NP_ranges s ≤ 6 * (NP_pat s + 1)
    clear h; grind
theorem I_pat3 {s : SNP} {b : Int32} (h : I_NP s) (hp : NP_pat s + 1 + 1 < NP_patEnd s) : I_NP (NP_pp s (NP_pat s + 1 + 2) b) := by
  have i := sc_NP h
  refine ⟨?_, ?_, h.2.2.1, h.2.2.2.1, h.2.2.2.2.1, h.2.2.2.2.2.1, ?_, h.2.2.2.2.2.2.2.1, ?_, h.2.2.2.2.2.2.2.2.2⟩
  · show 0 ≤ NP_pat s + 1 + 2
    clear h; grind
  · show NP_pat s + 1 + 2 ≤ 4001
    clear h; grind
  · show NP_sets s ≤ NP_pat s + 1 + 2
    clear h; grind
  · show NP_ranges s ≤ 6 * (NP_pat s + 1 + 2)
    clear h; grind
theorem NF_pp {s : SNP} {a b : Int32} : NF s (NP_pp s a b) := ⟨rfl, rfl, rfl, rfl, rfl, rfl, rfl, rfl⟩
theorem I_patU {s : SNP} (h : I_NP s) (hp : NP_pat s ≤ 4000) {b : Int32} : I_NP (NP_pp s (NP_pat s + 1) b) := by
  have i := sc_NP h
  refine ⟨?_, ?_, h.2.2.1, h.2.2.2.1, h.2.2.2.2.1, h.2.2.2.2.2.1, ?_, h.2.2.2.2.2.2.2.1, ?_, h.2.2.2.2.2.2.2.2.2⟩
  · show 0 ≤ NP_pat s + 1
    clear h; grind
  · show NP_pat s + 1 ≤ 4001
    clear h; grind
  · show NP_sets s ≤ NP_pat s + 1
    clear h; grind
  · show NP_ranges s ≤ 6 * (NP_pat s + 1)
    clear h; grind
theorem s_MM_p {x1 : Int32} {tc : SMT} {Np : SNP} (h_tc : I_MT tc) (t_tc : T_MT tc) (h_Np : I_NP Np) (p0 : 0 ≤ x1) (p1 : x1 ≤ 1) : o_ok (m_MM_p x1 tc Np) (fun r => (r ≠ -1 → NP_pat Np + x1 < NP_patEnd Np)) := by
  unfold m_MM_p
  refine o_okI (fun c1 => ?_) (fun c1 => ?_)
  · refine o_okS ?_
    first | with_reducible exact True.intro | with_reducible assumption | grind [-Prod] | grind [-Prod, → sc_MT, → sc_NP] | grind [-Prod, I_MT, I_NP, o_bn, upd]
  · refine o_okG (o_inM (m := 4000) rfl (by first | with_reducible exact True.intro | with_reducible assumption | grind [-Prod] | grind [-Prod, → sc_MT, → sc_NP] | grind [-Prod, I_MT, I_NP, o_bn, upd]) (by first | with_reducible exact True.intro | with_reducible assumption | grind [-Prod] | grind [-Prod, → sc_MT, → sc_NP] | grind [-Prod, I_MT, I_NP, o_bn, upd])) ?_
    refine o_okS ?_
    first | with_reducible exact True.intro | with_reducible assumption | grind [-Prod] | grind [-Prod, → sc_MT, → sc_NP] | grind [-Prod, I_MT, I_NP, o_bn, upd]
theorem s_MM_node {x1 : Int32} {x2 : Int32} {Np : SNP} (h_Np : I_NP Np) (p0 : NP_nodes Np < 15000) : o_ok (m_MM_node x1 x2 Np) (fun r => r.1 = NP_nodes Np ∧ ADN Np r.2 x1 x2 ∧ I_NP r.2 ∧ NP_sets r.2 = NP_sets Np ∧ NP_pat r.2 = NP_pat Np ∧ NP_broken r.2 = NP_broken Np ∧ NP_ranges r.2 = NP_ranges Np) := by
  unfold m_MM_node
  refine o_okG (o_inM (m := 16000) rfl (by first | with_reducible exact True.intro | with_reducible assumption | grind [-Prod, ADN] | grind [-Prod, → sc_NP, ADN] | grind [-Prod, I_NP, o_bn, upd, ADN]) (by first | with_reducible exact True.intro | with_reducible assumption | grind [-Prod, ADN] | grind [-Prod, → sc_NP, ADN] | grind [-Prod, I_NP, o_bn, upd, ADN])) ?_
  refine o_okG (o_inM (m := 16000) rfl (by first | with_reducible exact True.intro | with_reducible assumption | grind [-Prod, ADN] | grind [-Prod, → sc_NP, ADN] | grind [-Prod, I_NP, o_bn, upd, ADN]) (by first | with_reducible exact True.intro | with_reducible assumption | grind [-Prod, ADN] | grind [-Prod, → sc_NP, ADN] | grind [-Prod, I_NP, o_bn, upd, ADN])) ?_
  refine o_okG (o_inM (m := 16000) rfl (by first | with_reducible exact True.intro | with_reducible assumption | grind [-Prod, ADN] | grind [-Prod, → sc_NP, ADN] | grind [-Prod, I_NP, o_bn, upd, ADN]) (by first | with_reducible exact True.intro | with_reducible assumption | grind [-Prod, ADN] | grind [-Prod, → sc_NP, ADN] | grind [-Prod, I_NP, o_bn, upd, ADN])) ?_
  refine o_okG (o_inM (m := 16000) rfl (by first | with_reducible exact True.intro | with_reducible assumption | grind [-Prod, ADN] | grind [-Prod, → sc_NP, ADN] | grind [-Prod, I_NP, o_bn, upd, ADN]) (by first | with_reducible exact True.intro | with_reducible assumption | grind [-Prod, ADN] | grind [-Prod, → sc_NP, ADN] | grind [-Prod, I_NP, o_bn, upd, ADN])) ?_
  refine o_okG (o_inM (m := 16000) rfl (by first | with_reducible exact True.intro | with_reducible assumption | grind [-Prod, ADN] | grind [-Prod, → sc_NP, ADN] | grind [-Prod, I_NP, o_bn, upd, ADN]) (by first | with_reducible exact True.intro | with_reducible assumption | grind [-Prod, ADN] | grind [-Prod, → sc_NP, ADN] | grind [-Prod, I_NP, o_bn, upd, ADN])) ?_
  refine o_okS ?_
  refine ⟨?_, ?_, ?_, ?_, ?_, ?_, ?_⟩
  · first | with_reducible exact True.intro | with_reducible assumption | grind [-Prod, ADN] | grind [-Prod, → sc_NP, ADN] | grind [-Prod, I_NP, o_bn, upd, ADN]
  · first | with_reducible exact True.intro | with_reducible assumption | grind [-Prod, ADN] | grind [-Prod, → sc_NP, ADN] | grind [-Prod, I_NP, o_bn, upd, ADN]
  · exact ⟨h_Np.1, h_Np.2.1, h_Np.2.2.1, (by first | with_reducible exact True.intro | with_reducible assumption | grind [-Prod, ADN] | grind [-Prod, → sc_NP, ADN] | grind [-Prod, I_NP, o_bn, upd, ADN]), (by first | with_reducible exact True.intro | with_reducible assumption | grind [-Prod, ADN] | grind [-Prod, → sc_NP, ADN] | grind [-Prod, I_NP, o_bn, upd, ADN]), h_Np.2.2.2.2.2.1, h_Np.2.2.2.2.2.2.1, h_Np.2.2.2.2.2.2.2.1, h_Np.2.2.2.2.2.2.2.2.1, h_Np.2.2.2.2.2.2.2.2.2.1, h_Np.2.2.2.2.2.2.2.2.2.2⟩
  · first | with_reducible exact True.intro | with_reducible assumption | grind [-Prod, ADN] | grind [-Prod, → sc_NP, ADN] | grind [-Prod, I_NP, o_bn, upd, ADN]
  · first | with_reducible exact True.intro | with_reducible assumption | grind [-Prod, ADN] | grind [-Prod, → sc_NP, ADN] | grind [-Prod, I_NP, o_bn, upd, ADN]
  · first | with_reducible exact True.intro | with_reducible assumption | grind [-Prod, ADN] | grind [-Prod, → sc_NP, ADN] | grind [-Prod, I_NP, o_bn, upd, ADN]
  · first | with_reducible exact True.intro | with_reducible assumption | grind [-Prod, ADN] | grind [-Prod, → sc_NP, ADN] | grind [-Prod, I_NP, o_bn, upd, ADN]
theorem s_MM_no {Np : SNP} (h_Np : I_NP Np) (p0 : NP_nodes Np < 15000) : o_ok (m_MM_no Np) (fun r => NP_broken r.2 ≠ 0 ∧ NP_nodes r.2 = NP_nodes Np + 1 ∧ I_NP r.2 ∧ r.1 = NP_nodes Np ∧ NP_pat r.2 = NP_pat Np) := by
  unfold m_MM_no
  refine o_okB (s_MM_node  (show I_NP _ from h_Np) (by first | with_reducible exact True.intro | with_reducible assumption | grind [-Prod, ADN] | grind [-Prod, → sc_NP, ADN] | grind [-Prod, I_NP, o_bn, upd, ADN])) ?_
  intro q1_1 ⟨g2, g3, g4, g5, g6, g7, g8⟩
  refine o_okS ?_
  refine ⟨?_, ?_, ?_, ?_, ?_⟩
  · first | with_reducible exact True.intro | with_reducible assumption | grind [-Prod, ADN] | grind [-Prod, → sc_NP, ADN] | grind [-Prod, I_NP, o_bn, upd, ADN]
  · first | with_reducible exact True.intro | with_reducible assumption | grind [-Prod, ADN] | grind [-Prod, → sc_NP, ADN] | grind [-Prod, I_NP, o_bn, upd, ADN]
  · exact g4
  · first | with_reducible exact True.intro | with_reducible assumption | grind [-Prod, ADN] | grind [-Prod, → sc_NP, ADN] | grind [-Prod, I_NP, o_bn, upd, ADN]
  · first | with_reducible exact True.intro | with_reducible assumption | grind [-Prod, ADN] | grind [-Prod, → sc_NP, ADN] | grind [-Prod, I_NP, o_bn, upd, ADN]
theorem s_MM_begin {Np : SNP} (h_Np : I_NP Np) : o_ok (m_MM_begin Np) (fun r => r = NP_ranges Np) := by
  unfold m_MM_begin
  refine o_okS ?_
  first | with_reducible exact True.intro | with_reducible assumption | grind [-Prod] | grind [-Prod, → sc_NP] | grind [-Prod, I_NP, o_bn, upd]
theorem s_MM_range {x1 : Int32} {x2 : Int32} {Np : SNP} (h_Np : I_NP Np) (p0 : NP_ranges Np + 1 ≤ 6 * NP_pat Np) : o_ok (m_MM_range x1 x2 Np) (fun r => NF Np r ∧ NP_pat r = NP_pat Np ∧ NP_broken r = NP_broken Np ∧ NP_ranges r = NP_ranges Np + 1 ∧ I_NP r) := by
  unfold m_MM_range
  refine o_okG (o_inM (m := 48000) rfl (by first | with_reducible exact True.intro | with_reducible assumption | grind [-Prod, → sc_NF] | grind [-Prod, → sc_NP, → sc_NF] | grind [-Prod, I_NP, o_bn, upd, → sc_NF]) (by first | with_reducible exact True.intro | with_reducible assumption | grind [-Prod, → sc_NF] | grind [-Prod, → sc_NP, → sc_NF] | grind [-Prod, I_NP, o_bn, upd, → sc_NF])) ?_
  refine o_okG (o_inM (m := 48000) rfl (by first | with_reducible exact True.intro | with_reducible assumption | grind [-Prod, → sc_NF] | grind [-Prod, → sc_NP, → sc_NF] | grind [-Prod, I_NP, o_bn, upd, → sc_NF]) (by first | with_reducible exact True.intro | with_reducible assumption | grind [-Prod, → sc_NF] | grind [-Prod, → sc_NP, → sc_NF] | grind [-Prod, I_NP, o_bn, upd, → sc_NF])) ?_
  refine o_okS ?_
  refine ⟨?_, ?_, ?_, ?_, ?_⟩
  · exact (show NF (Np) _ from ⟨rfl, rfl, rfl, rfl, rfl, rfl, rfl, rfl⟩)
  · first | with_reducible exact True.intro | with_reducible assumption | grind [-Prod, → sc_NF] | grind [-Prod, → sc_NP, → sc_NF] | grind [-Prod, I_NP, o_bn, upd, → sc_NF]
  · first | with_reducible exact True.intro | with_reducible assumption | grind [-Prod, → sc_NF] | grind [-Prod, → sc_NP, → sc_NF] | grind [-Prod, I_NP, o_bn, upd, → sc_NF]
  · first | with_reducible exact True.intro | with_reducible assumption | grind [-Prod, → sc_NF] | grind [-Prod, → sc_NP, → sc_NF] | grind [-Prod, I_NP, o_bn, upd, → sc_NF]
  · exact ⟨h_Np.1, h_Np.2.1, h_Np.2.2.1, h_Np.2.2.2.1, h_Np.2.2.2.2.1, h_Np.2.2.2.2.2.1, h_Np.2.2.2.2.2.2.1, (by first | with_reducible exact True.intro | with_reducible assumption | grind [-Prod, → sc_NF] | grind [-Prod, → sc_NP, → sc_NF] | grind [-Prod, I_NP, o_bn, upd, → sc_NF]), (by first | with_reducible exact True.intro | with_reducible assumption | grind [-Prod, → sc_NF] | grind [-Prod, → sc_NP, → sc_NF] | grind [-Prod, I_NP, o_bn, upd, → sc_NF]), h_Np.2.2.2.2.2.2.2.2.2.1, h_Np.2.2.2.2.2.2.2.2.2.2⟩
theorem s_MM_set_b185 {n : Nat} {x2 : Int32} {x3 : Int32} {z : Int32 × Int32 × SNP} {s0 : SNP} (hn : o_big ≤ n) (p0 : 0 ≤ x2) (p1 : x3 ≤ 12) (p2 : x2 ≤ 30000) (l0 : NF s0 z.2.2) (l1 : NP_pat z.2.2 = NP_pat s0) (l2 : NP_broken z.2.2 = NP_broken s0) (l3 : NP_ranges z.2.2 = NP_ranges s0) (l4 : 0 ≤ z.2.1) (l5 : I_NP z.2.2) : o_ok (m_MM_set_b185 n x2 x3 z) (fun q => (q.1 = 0 → NF s0 q.2.2.2 ∧ NP_pat q.2.2.2 = NP_pat s0 ∧ NP_broken q.2.2.2 = NP_broken s0 ∧ NP_ranges q.2.2.2 = NP_ranges s0 ∧ 0 ≤ q.2.2.1 ∧ I_NP q.2.2.2 ∧ o_mu q.2.2.1 < o_mu z.2.1) ∧ (q.1 ≠ 0 → NF s0 q.2.2.2 ∧ NP_pat q.2.2.2 = NP_pat s0 ∧ NP_broken q.2.2.2 = NP_broken s0 ∧ NP_ranges q.2.2.2 = NP_ranges s0 ∧ I_NP q.2.2.2)) := by
  unfold m_MM_set_b185
  refine o_okI (fun c1 => ?_) (fun c1 => ?_)
  · refine o_okS ?_
    refine ⟨fun h => absurd (show (1 : Nat) = 0 from h) (by decide), fun _ => ?_⟩
    refine ⟨?_, ?_, ?_, ?_, ?_⟩
    · exact l0
    · first | with_reducible exact True.intro | with_reducible assumption | grind [-Prod] | grind [-Prod, → sc_NP] | grind [-Prod, I_NP, o_bn, upd]
    · first | with_reducible exact True.intro | with_reducible assumption | grind [-Prod] | grind [-Prod, → sc_NP] | grind [-Prod, I_NP, o_bn, upd]
    · first | with_reducible exact True.intro | with_reducible assumption | grind [-Prod] | grind [-Prod, → sc_NP] | grind [-Prod, I_NP, o_bn, upd]
    · exact l5
  · refine o_okG (o_inM (m := 48000) rfl (by first | with_reducible exact True.intro | with_reducible assumption | grind [-Prod] | grind [-Prod, → sc_NP] | grind [-Prod, I_NP, o_bn, upd]) (by first | with_reducible exact True.intro | with_reducible assumption | grind [-Prod] | grind [-Prod, → sc_NP] | grind [-Prod, I_NP, o_bn, upd])) ?_
    refine o_okN (fun x6_200_2 ex6_200_2 => ?_)
    refine o_okG (o_inM (m := 48000) rfl (by first | with_reducible exact True.intro | with_reducible assumption | grind [-Prod] | grind [-Prod, → sc_NP] | grind [-Prod, I_NP, o_bn, upd]) (by first | with_reducible exact True.intro | with_reducible assumption | grind [-Prod] | grind [-Prod, → sc_NP] | grind [-Prod, I_NP, o_bn, upd])) ?_
    refine o_okN (fun x7_211_3 ex7_211_3 => ?_)
    refine o_okG (o_inM (m := 48000) rfl (by first | with_reducible exact True.intro | with_reducible assumption | grind [-Prod] | grind [-Prod, → sc_NP] | grind [-Prod, I_NP, o_bn, upd]) (by first | with_reducible exact True.intro | with_reducible assumption | grind [-Prod] | grind [-Prod, → sc_NP] | grind [-Prod, I_NP, o_bn, upd])) ?_
    refine o_okG (o_inM (m := 48000) rfl (by first | with_reducible exact True.intro | with_reducible assumption | grind [-Prod] | grind [-Prod, → sc_NP] | grind [-Prod, I_NP, o_bn, upd]) (by first | with_reducible exact True.intro | with_reducible assumption | grind [-Prod] | grind [-Prod, → sc_NP] | grind [-Prod, I_NP, o_bn, upd])) ?_
    refine o_okN (fun x4_241_4 ex4_241_4 => ?_)
    refine o_okN (fun x5_243_5 ex5_243_5 => ?_)
    refine o_okS ?_
    refine ⟨fun _ => ?_, fun h => absurd rfl h⟩
    refine ⟨?_, ?_, ?_, ?_, ?_, ?_, ?_⟩
    · exact (NF_trans l0 (show NF (z.2.2) _ from ⟨rfl, rfl, rfl, rfl, rfl, rfl, rfl, rfl⟩))
    · first | with_reducible exact True.intro | with_reducible assumption | grind [-Prod] | grind [-Prod, → sc_NP] | grind [-Prod, I_NP, o_bn, upd]
    · first | with_reducible exact True.intro | with_reducible assumption | grind [-Prod] | grind [-Prod, → sc_NP] | grind [-Prod, I_NP, o_bn, upd]
    · first | with_reducible exact True.intro | with_reducible assumption | grind [-Prod] | grind [-Prod, → sc_NP] | grind [-Prod, I_NP, o_bn, upd]
    · first | with_reducible exact True.intro | with_reducible assumption | grind [-Prod] | grind [-Prod, → sc_NP] | grind [-Prod, I_NP, o_bn, upd]
    · exact ⟨l5.1, l5.2.1, l5.2.2.1, l5.2.2.2.1, l5.2.2.2.2.1, l5.2.2.2.2.2.1, l5.2.2.2.2.2.2.1, l5.2.2.2.2.2.2.2.1, l5.2.2.2.2.2.2.2.2.1, l5.2.2.2.2.2.2.2.2.2.1, l5.2.2.2.2.2.2.2.2.2.2⟩
    · first | exact o_muL (by first | with_reducible exact True.intro | with_reducible assumption | grind [-Prod] | grind [-Prod, → sc_NP] | grind [-Prod, I_NP, o_bn, upd]) | exact o_nuL (by first | with_reducible exact True.intro | with_reducible assumption | grind [-Prod] | grind [-Prod, → sc_NP] | grind [-Prod, I_NP, o_bn, upd]) | (first | with_reducible exact True.intro | with_reducible assumption | grind [-Prod] | grind [-Prod, → sc_NP] | grind [-Prod, I_NP, o_bn, upd])
theorem l_MM_set_b185 {n : Nat} {x2 : Int32} {x3 : Int32} {z : Int32 × Int32 × SNP} {s0 : SNP} (hn : o_big ≤ n) (p0 : 0 ≤ x2) (p1 : x3 ≤ 12) (p2 : x2 ≤ 30000) (l0 : NF s0 z.2.2) (l1 : NP_pat z.2.2 = NP_pat s0) (l2 : NP_broken z.2.2 = NP_broken s0) (l3 : NP_ranges z.2.2 = NP_ranges s0) (l4 : 0 ≤ z.2.1) (l5 : I_NP z.2.2) : o_ok (o_lp n (m_MM_set_b185 n x2 x3) z) (fun q => q.1 ≠ 0 ∧ NF s0 q.2.2.2 ∧ NP_pat q.2.2.2 = NP_pat s0 ∧ NP_broken q.2.2.2 = NP_broken s0 ∧ NP_ranges q.2.2.2 = NP_ranges s0 ∧ I_NP q.2.2.2) := by
  exact o_lpR (fun z => NF s0 z.2.2 ∧ NP_pat z.2.2 = NP_pat s0 ∧ NP_broken z.2.2 = NP_broken s0 ∧ NP_ranges z.2.2 = NP_ranges s0 ∧ 0 ≤ z.2.1 ∧ I_NP z.2.2) (fun z => o_mu z.2.1) hn (o_muB) ⟨l0, l1, l2, l3, l4, l5⟩
    (fun z hz => by obtain ⟨l0, l1, l2, l3, l4, l5⟩ := hz; exact o_okW (s_MM_set_b185 (s0 := s0) hn p0 p1 p2 l0 l1 l2 l3 l4 l5) (fun q hq => ⟨fun h => by have := hq.1 h; grind, hq.2⟩))
theorem s_MM_set_j165 {n : Nat} {x1 : Int32} {x2 : Int32} {Np : SNP} (hn : o_big ≤ n) (h_Np : I_NP Np) (p0 : 0 ≤ x2) (p1 : x2 < NP_ranges Np) (p2 : NP_ranges Np ≤ x2 + 10) (p3 : NP_ranges Np + 1 ≤ 6 * NP_pat Np) : o_ok (m_MM_set_j165 n x1 x2 Np) (fun r => NF Np r ∧ NP_pat r = NP_pat Np ∧ NP_broken r = NP_broken Np ∧ NP_ranges r ≤ NP_ranges Np + 1 ∧ I_NP r) := by
  unfold m_MM_set_j165
  refine o_okI (fun c1 => ?_) (fun c1 => ?_)
  · refine o_okN (fun x3_178_2 ex3_178_2 => ?_)
    refine o_okB (l_MM_set_b185 (s0 := Np) hn (by first | with_reducible exact True.intro | with_reducible assumption | grind [-Prod, → sc_NF] | grind [-Prod, → sc_NP, → sc_NF] | grind [-Prod, I_NP, o_bn, upd, → sc_NF]) (by first | with_reducible exact True.intro | with_reducible assumption | grind [-Prod, → sc_NF] | grind [-Prod, → sc_NP, → sc_NF] | grind [-Prod, I_NP, o_bn, upd, → sc_NF]) (by first | with_reducible exact True.intro | with_reducible assumption | grind [-Prod, → sc_NF] | grind [-Prod, → sc_NP, → sc_NF] | grind [-Prod, I_NP, o_bn, upd, → sc_NF]) NF_rfl (by first | with_reducible exact True.intro | with_reducible assumption | grind [-Prod, → sc_NF] | grind [-Prod, → sc_NP, → sc_NF] | grind [-Prod, I_NP, o_bn, upd, → sc_NF]) (by first | with_reducible exact True.intro | with_reducible assumption | grind [-Prod, → sc_NF] | grind [-Prod, → sc_NP, → sc_NF] | grind [-Prod, I_NP, o_bn, upd, → sc_NF]) (by first | with_reducible exact True.intro | with_reducible assumption | grind [-Prod, → sc_NF] | grind [-Prod, → sc_NP, → sc_NF] | grind [-Prod, I_NP, o_bn, upd, → sc_NF]) (by first | with_reducible exact True.intro | with_reducible assumption | grind [-Prod, → sc_NF] | grind [-Prod, → sc_NP, → sc_NF] | grind [-Prod, I_NP, o_bn, upd, → sc_NF]) h_Np) ?_
    intro q11_3 ⟨yq11_3, g4, g5, g6, g7, g8⟩
    refine o_okB (s_MM_range  g8 (by first | with_reducible exact True.intro | with_reducible assumption | grind [-Prod, → sc_NF] | grind [-Prod, → sc_NP, → sc_NF] | grind [-Prod, I_NP, o_bn, upd, → sc_NF])) ?_
    intro q12_9 ⟨g10, g11, g12, g13, g14⟩
    refine o_okS ?_
    refine ⟨?_, ?_, ?_, ?_, ?_⟩
    · exact (NF_trans g4 g10)
    · first | with_reducible exact True.intro | with_reducible assumption | grind [-Prod, → sc_NF] | grind [-Prod, → sc_NP, → sc_NF] | grind [-Prod, I_NP, o_bn, upd, → sc_NF]
    · first | with_reducible exact True.intro | with_reducible assumption | grind [-Prod, → sc_NF] | grind [-Prod, → sc_NP, → sc_NF] | grind [-Prod, I_NP, o_bn, upd, → sc_NF]
    · first | with_reducible exact True.intro | with_reducible assumption | grind [-Prod, → sc_NF] | grind [-Prod, → sc_NP, → sc_NF] | grind [-Prod, I_NP, o_bn, upd, → sc_NF]
    · exact g14
  · refine o_okS ?_
    refine ⟨?_, ?_, ?_, ?_, ?_⟩
    · exact NF_rfl
    · first | with_reducible exact True.intro | with_reducible assumption | grind [-Prod, → sc_NF] | grind [-Prod, → sc_NP, → sc_NF] | grind [-Prod, I_NP, o_bn, upd, → sc_NF]
    · first | with_reducible exact True.intro | with_reducible assumption | grind [-Prod, → sc_NF] | grind [-Prod, → sc_NP, → sc_NF] | grind [-Prod, I_NP, o_bn, upd, → sc_NF]
    · first | with_reducible exact True.intro | with_reducible assumption | grind [-Prod, → sc_NF] | grind [-Prod, → sc_NP, → sc_NF] | grind [-Prod, I_NP, o_bn, upd, → sc_NF]
    · exact h_Np
def SPq (Np q : SNP) (k : Int32) : Prop := NF Np q ∧ NP_pat q = NP_pat Np ∧ NP_broken q = NP_broken Np ∧ NP_ranges q = NP_ranges Np + k ∧ I_NP q
theorem rs6 {r k X : Int32} (h0 : 0 ≤ r) (h1 : r ≤ 30000) (h : r + 11 ≤ X) (k0 : 0 ≤ k) (k1 : k ≤ 10) : r + k + 1 ≤ X ∧ r + (k + 1) = r + k + 1 := by
  constructor <;> grind
theorem SPq_step {Np q : SNP} {a b k : Int32} (h0 : 0 ≤ NP_ranges Np) (h1 : NP_ranges Np ≤ 30000) (p0 : NP_ranges Np + 11 ≤ 6 * NP_pat Np) (h : SPq Np q k) (k0 : 0 ≤ k) (k1 : k ≤ 9) : o_ok (m_MM_range a b q) (fun r => SPq Np r (k + 1)) := by
  obtain ⟨a1, a2, a3, a4, a5⟩ := h
  obtain ⟨e1, e2⟩ := rs6 h0 h1 p0 k0 (Int32.le_trans k1 (by decide))
  refine o_okW (s_MM_range a5 (by rw [a4, a2]; exact e1)) ?_
  intro r ⟨b1, b2, b3, b4, b5⟩
  exact ⟨NF_trans a1 b1, b2.trans a2, b3.trans a3, by rw [b4, a4, e2], b5⟩
theorem SPq_fin {n : Nat} {Np q : SNP} {x1 k : Int32} (hn : o_big ≤ n) (h0 : 0 ≤ NP_ranges Np) (h1 : NP_ranges Np ≤ 30000) (p0 : NP_ranges Np + 11 ≤ 6 * NP_pat Np) (h : SPq Np q k) (k0 : 1 ≤ k) (k1 : k ≤ 10) : o_ok (m_MM_set_j165 n x1 (NP_ranges Np) q) (fun r => NF Np r ∧ NP_pat r = NP_pat Np ∧ NP_broken r = NP_broken Np ∧ I_NP r) := by
  obtain ⟨a1, a2, a3, a4, a5⟩ := h
  obtain ⟨e1, e2⟩ := rs6 h0 h1 p0 (Int32.le_trans (by decide) k0) k1
  refine o_okW (s_MM_set_j165 hn a5 h0 (by rw [a4]; clear p0 a1 a5; grind) (by rw [a4]; clear p0 a1 a5; grind) (by rw [a4, a2]; exact e1)) ?_
  intro r ⟨b1, b2, b3, b4, b5⟩
  exact ⟨NF_trans a1 b1, b2.trans a2, b3.trans a3, b5⟩
theorem s_MM_set {n : Nat} {x1 : Int32} {Np : SNP} (hn : o_big ≤ n) (h_Np : I_NP Np) (p0 : NP_ranges Np + 11 ≤ 6 * NP_pat Np) : o_ok (m_MM_set n x1 Np) (fun r => NF Np r ∧ NP_pat r = NP_pat Np ∧ NP_broken r = NP_broken Np ∧ I_NP r) := by
  have i := sc_NP h_Np
  have st : ∀ (k : Int32) (q : SNP) (a b : Int32), SPq Np q k → 0 ≤ k → k ≤ 9 → o_ok (m_MM_range a b q) (fun r => SPq Np r (k + 1)) := fun k q a b h h0 h1 => SPq_step i.2.2.2.2.2.2.2.1 (by clear h_Np; grind) p0 h h0 h1
  have fi : ∀ (k : Int32) (q : SNP), SPq Np q k → 1 ≤ k → k ≤ 10 → o_ok (m_MM_set_j165 n x1 (NP_ranges Np) q) (fun r => NF Np r ∧ NP_pat r = NP_pat Np ∧ NP_broken r = NP_broken Np ∧ I_NP r) := fun k q h h0 h1 => SPq_fin hn i.2.2.2.2.2.2.2.1 (by clear h_Np st; grind) p0 h h0 h1
  have z0 : SPq Np Np 0 := ⟨NF_rfl, rfl, rfl, by clear st fi; grind, h_Np⟩
  unfold m_MM_set
  refine o_okN (fun x2 e2 => ?_)
  subst e2
  refine o_okI (fun c => ?_) (fun c => ?_)
  · refine o_okB (st _ _ _ _ z0 (by decide) (by decide)) ?_
    intro q1 h1
    exact fi _ _ h1 (by decide) (by decide)
  refine o_okI (fun c => ?_) (fun c => ?_)
  · refine o_okB (st _ _ _ _ z0 (by decide) (by decide)) ?_
    intro q1 h1
    refine o_okB (st _ _ _ _ h1 (by decide) (by decide)) ?_
    intro q2 h2
    refine o_okB (st _ _ _ _ h2 (by decide) (by decide)) ?_
    intro q3 h3
    refine o_okB (st _ _ _ _ h3 (by decide) (by decide)) ?_
    intro q4 h4
    exact fi _ _ h4 (by decide) (by decide)
  refine o_okB (st _ _ _ _ z0 (by decide) (by decide)) ?_
  intro q1 h1
  refine o_okB (st _ _ _ _ h1 (by decide) (by decide)) ?_
  intro q2 h2
  refine o_okB (st _ _ _ _ h2 (by decide) (by decide)) ?_
  intro q3 h3
  refine o_okB (st _ _ _ _ h3 (by decide) (by decide)) ?_
  intro q4 h4
  refine o_okB (st _ _ _ _ h4 (by decide) (by decide)) ?_
  intro q5 h5
  refine o_okB (st _ _ _ _ h5 (by decide) (by decide)) ?_
  intro q6 h6
  refine o_okB (st _ _ _ _ h6 (by decide) (by decide)) ?_
  intro q7 h7
  refine o_okB (st _ _ _ _ h7 (by decide) (by decide)) ?_
  intro q8 h8
  refine o_okB (st _ _ _ _ h8 (by decide) (by decide)) ?_
  intro q9 h9
  refine o_okB (st _ _ _ _ h9 (by decide) (by decide)) ?_
  intro q10 h10
  exact fi _ _ h10 (by decide) (by decide)
theorem s_MM_hex_b4 {n : Nat} {x1 : Int32} {tc : SMT} {z : Int32 × Int32 × SNP} {s0 : SNP} (hn : o_big ≤ n) (h_tc : I_MT tc) (t_tc : T_MT tc) (l0 : NF s0 z.2.2) (l1 : NP_pat s0 ≤ NP_pat z.2.2) (l2 : NP_ranges z.2.2 = NP_ranges s0) (l3 : I_NP z.2.2) : o_ok (m_MM_hex_b4 n x1 tc z) (fun q => (q.1 = 0 → NF s0 q.2.2.2 ∧ NP_pat s0 ≤ NP_pat q.2.2.2 ∧ NP_ranges q.2.2.2 = NP_ranges s0 ∧ I_NP q.2.2.2 ∧ o_mu (NP_pat q.2.2.2) < o_mu (NP_pat z.2.2)) ∧ (q.1 ≠ 0 → NF s0 q.2.2.2 ∧ NP_pat s0 ≤ NP_pat q.2.2.2 ∧ NP_ranges q.2.2.2 = NP_ranges s0 ∧ I_NP q.2.2.2)) := by
  unfold m_MM_hex_b4
  refine o_okI (fun c1 => ?_) (fun c1 => ?_)
  · refine o_okS ?_
    refine ⟨fun h => absurd (show (2 : Nat) = 0 from h) (by decide), fun _ => ?_⟩
    refine ⟨?_, ?_, ?_, ?_⟩
    · exact l0
    · first | with_reducible exact True.intro | with_reducible assumption | grind [-Prod, → sc_NF] | grind [-Prod, → sc_MT, → sc_NP, → sc_NF] | grind [-Prod, I_MT, I_NP, o_bn, upd, → sc_NF]
    · first | with_reducible exact True.intro | with_reducible assumption | grind [-Prod, → sc_NF] | grind [-Prod, → sc_MT, → sc_NP, → sc_NF] | grind [-Prod, I_MT, I_NP, o_bn, upd, → sc_NF]
    · exact l3
  · refine o_okB (s_MM_p  h_tc t_tc l3 (by first | with_reducible exact True.intro | with_reducible assumption | grind [-Prod, → sc_NF] | grind [-Prod, → sc_MT, → sc_NP, → sc_NF] | grind [-Prod, I_MT, I_NP, o_bn, upd, → sc_NF]) (by first | with_reducible exact True.intro | with_reducible assumption | grind [-Prod, → sc_NF] | grind [-Prod, → sc_MT, → sc_NP, → sc_NF] | grind [-Prod, I_MT, I_NP, o_bn, upd, → sc_NF])) ?_
    intro q1_2 g3
    refine o_okI (fun c4 => ?_) (fun c4 => ?_)
    · refine o_okB (s_MM_p  h_tc t_tc l3 (by first | with_reducible exact True.intro | with_reducible assumption | grind [-Prod, → sc_NF] | grind [-Prod, → sc_MT, → sc_NP, → sc_NF] | grind [-Prod, I_MT, I_NP, o_bn, upd, → sc_NF]) (by first | with_reducible exact True.intro | with_reducible assumption | grind [-Prod, → sc_NF] | grind [-Prod, → sc_MT, → sc_NP, → sc_NF] | grind [-Prod, I_MT, I_NP, o_bn, upd, → sc_NF])) ?_
      intro q2_5 g6
      refine o_okB (s_MT_hex ) ?_
      intro q3_7 _
      unfold m_MM_hex_j29
      refine o_okI (fun c8 => ?_) (fun c8 => ?_)
      · refine o_okN (fun x2_50_9 ex2_50_9 => ?_)
        refine o_okN (fun x3_61_10 ex3_61_10 => ?_)
        refine o_okS ?_
        refine ⟨fun _ => ?_, fun h => absurd rfl h⟩
        refine ⟨?_, ?_, ?_, ?_, ?_⟩
        · exact (NF_trans l0 (show NF (z.2.2) _ from ⟨rfl, rfl, rfl, rfl, rfl, rfl, rfl, rfl⟩))
        · first | with_reducible exact True.intro | with_reducible assumption | grind [-Prod, → sc_NF] | grind [-Prod, → sc_MT, → sc_NP, → sc_NF] | grind [-Prod, I_MT, I_NP, o_bn, upd, → sc_NF]
        · first | with_reducible exact True.intro | with_reducible assumption | grind [-Prod, → sc_NF] | grind [-Prod, → sc_MT, → sc_NP, → sc_NF] | grind [-Prod, I_MT, I_NP, o_bn, upd, → sc_NF]
        · exact (I_patU l3 (by first | with_reducible exact True.intro | with_reducible assumption | grind [-Prod, → sc_NF] | grind [-Prod, → sc_MT, → sc_NP, → sc_NF] | grind [-Prod, I_MT, I_NP, o_bn, upd, → sc_NF]))
        · first | exact o_muL (by first | with_reducible exact True.intro | with_reducible assumption | grind [-Prod, → sc_NF] | grind [-Prod, → sc_MT, → sc_NP, → sc_NF] | grind [-Prod, I_MT, I_NP, o_bn, upd, → sc_NF]) | exact o_nuL (by first | with_reducible exact True.intro | with_reducible assumption | grind [-Prod, → sc_NF] | grind [-Prod, → sc_MT, → sc_NP, → sc_NF] | grind [-Prod, I_MT, I_NP, o_bn, upd, → sc_NF]) | (first | with_reducible exact True.intro | with_reducible assumption | grind [-Prod, → sc_NF] | grind [-Prod, → sc_MT, → sc_NP, → sc_NF] | grind [-Prod, I_MT, I_NP, o_bn, upd, → sc_NF])
      · refine o_okS ?_
        refine ⟨fun h => absurd (show (1 : Nat) = 0 from h) (by decide), fun _ => ?_⟩
        refine ⟨?_, ?_, ?_, ?_⟩
        · exact l0
        · first | with_reducible exact True.intro | with_reducible assumption | grind [-Prod, → sc_NF] | grind [-Prod, → sc_MT, → sc_NP, → sc_NF] | grind [-Prod, I_MT, I_NP, o_bn, upd, → sc_NF]
        · first | with_reducible exact True.intro | with_reducible assumption | grind [-Prod, → sc_NF] | grind [-Prod, → sc_MT, → sc_NP, → sc_NF] | grind [-Prod, I_MT, I_NP, o_bn, upd, → sc_NF]
        · exact l3
    · unfold m_MM_hex_j29
      refine o_okI (fun c11 => ?_) (fun c11 => ?_)
      · refine o_okN (fun x2_50_12 ex2_50_12 => ?_)
        refine o_okN (fun x3_61_13 ex3_61_13 => ?_)
        refine o_okS ?_
        refine ⟨fun _ => ?_, fun h => absurd rfl h⟩
        refine ⟨?_, ?_, ?_, ?_, ?_⟩
        · exact (NF_trans l0 (show NF (z.2.2) _ from ⟨rfl, rfl, rfl, rfl, rfl, rfl, rfl, rfl⟩))
        · first | with_reducible exact True.intro | with_reducible assumption | grind [-Prod, → sc_NF] | grind [-Prod, → sc_MT, → sc_NP, → sc_NF] | grind [-Prod, I_MT, I_NP, o_bn, upd, → sc_NF]
        · first | with_reducible exact True.intro | with_reducible assumption | grind [-Prod, → sc_NF] | grind [-Prod, → sc_MT, → sc_NP, → sc_NF] | grind [-Prod, I_MT, I_NP, o_bn, upd, → sc_NF]
        · exact (I_patU l3 (by first | with_reducible exact True.intro | with_reducible assumption | grind [-Prod, → sc_NF] | grind [-Prod, → sc_MT, → sc_NP, → sc_NF] | grind [-Prod, I_MT, I_NP, o_bn, upd, → sc_NF]))
        · first | exact o_muL (by first | with_reducible exact True.intro | with_reducible assumption | grind [-Prod, → sc_NF] | grind [-Prod, → sc_MT, → sc_NP, → sc_NF] | grind [-Prod, I_MT, I_NP, o_bn, upd, → sc_NF]) | exact o_nuL (by first | with_reducible exact True.intro | with_reducible assumption | grind [-Prod, → sc_NF] | grind [-Prod, → sc_MT, → sc_NP, → sc_NF] | grind [-Prod, I_MT, I_NP, o_bn, upd, → sc_NF]) | (first | with_reducible exact True.intro | with_reducible assumption | grind [-Prod, → sc_NF] | grind [-Prod, → sc_MT, → sc_NP, → sc_NF] | grind [-Prod, I_MT, I_NP, o_bn, upd, → sc_NF])
      · refine o_okS ?_
        refine ⟨fun h => absurd (show (1 : Nat) = 0 from h) (by decide), fun _ => ?_⟩
        refine ⟨?_, ?_, ?_, ?_⟩
        · exact l0
        · first | with_reducible exact True.intro | with_reducible assumption | grind [-Prod, → sc_NF] | grind [-Prod, → sc_MT, → sc_NP, → sc_NF] | grind [-Prod, I_MT, I_NP, o_bn, upd, → sc_NF]
        · first | with_reducible exact True.intro | with_reducible assumption | grind [-Prod, → sc_NF] | grind [-Prod, → sc_MT, → sc_NP, → sc_NF] | grind [-Prod, I_MT, I_NP, o_bn, upd, → sc_NF]
        · exact l3
theorem l_MM_hex_b4 {n : Nat} {x1 : Int32} {tc : SMT} {z : Int32 × Int32 × SNP} {s0 : SNP} (hn : o_big ≤ n) (h_tc : I_MT tc) (t_tc : T_MT tc) (l0 : NF s0 z.2.2) (l1 : NP_pat s0 ≤ NP_pat z.2.2) (l2 : NP_ranges z.2.2 = NP_ranges s0) (l3 : I_NP z.2.2) : o_ok (o_lp n (m_MM_hex_b4 n x1 tc) z) (fun q => q.1 ≠ 0 ∧ NF s0 q.2.2.2 ∧ NP_pat s0 ≤ NP_pat q.2.2.2 ∧ NP_ranges q.2.2.2 = NP_ranges s0 ∧ I_NP q.2.2.2) := by
  exact o_lpR (fun z => NF s0 z.2.2 ∧ NP_pat s0 ≤ NP_pat z.2.2 ∧ NP_ranges z.2.2 = NP_ranges s0 ∧ I_NP z.2.2) (fun z => o_mu (NP_pat z.2.2)) hn (o_muB) ⟨l0, l1, l2, l3⟩
    (fun z hz => by obtain ⟨l0, l1, l2, l3⟩ := hz; exact o_okW (s_MM_hex_b4 (s0 := s0) hn h_tc t_tc l0 l1 l2 l3) (fun q hq => ⟨fun h => by have := hq.1 h; grind, hq.2⟩))
theorem s_MM_hex {n : Nat} {x1 : Int32} {tc : SMT} {Np : SNP} (hn : o_big ≤ n) (h_tc : I_MT tc) (t_tc : T_MT tc) (h_Np : I_NP Np) : o_ok (m_MM_hex n x1 tc Np) (fun r => NF Np r.2 ∧ NP_pat Np ≤ NP_pat r.2 ∧ NP_ranges r.2 = NP_ranges Np ∧ I_NP r.2) := by
  unfold m_MM_hex
  refine o_okB (l_MM_hex_b4 (s0 := Np) hn h_tc t_tc NF_rfl (by first | with_reducible exact True.intro | with_reducible assumption | grind [-Prod, → sc_NF] | grind [-Prod, → sc_MT, → sc_NP, → sc_NF] | grind [-Prod, I_MT, I_NP, o_bn, upd, → sc_NF]) (by first | with_reducible exact True.intro | with_reducible assumption | grind [-Prod, → sc_NF] | grind [-Prod, → sc_MT, → sc_NP, → sc_NF] | grind [-Prod, I_MT, I_NP, o_bn, upd, → sc_NF]) h_Np) ?_
  intro q4_1 ⟨yq4_1, g2, g3, g4, g5⟩
  refine o_okI (fun c6 => ?_) (fun c6 => ?_)
  · refine o_okS ?_
    refine ⟨?_, ?_, ?_, ?_⟩
    · exact (NF_trans g2 (show NF (q4_1.2.2.2) _ from ⟨rfl, rfl, rfl, rfl, rfl, rfl, rfl, rfl⟩))
    · first | with_reducible exact True.intro | with_reducible assumption | grind [-Prod, → sc_NF] | grind [-Prod, → sc_MT, → sc_NP, → sc_NF] | grind [-Prod, I_MT, I_NP, o_bn, upd, → sc_NF]
    · first | with_reducible exact True.intro | with_reducible assumption | grind [-Prod, → sc_NF] | grind [-Prod, → sc_MT, → sc_NP, → sc_NF] | grind [-Prod, I_MT, I_NP, o_bn, upd, → sc_NF]
    · exact (show I_NP _ from g5)
  · refine o_okS ?_
    refine ⟨?_, ?_, ?_, ?_⟩
    · exact g2
    · first | with_reducible exact True.intro | with_reducible assumption | grind [-Prod, → sc_NF] | grind [-Prod, → sc_MT, → sc_NP, → sc_NF] | grind [-Prod, I_MT, I_NP, o_bn, upd, → sc_NF]
    · first | with_reducible exact True.intro | with_reducible assumption | grind [-Prod, → sc_NF] | grind [-Prod, → sc_MT, → sc_NP, → sc_NF] | grind [-Prod, I_MT, I_NP, o_bn, upd, → sc_NF]
    · exact g5
theorem s_MM_unicode_b30 {n : Nat} {tc : SMT} {z : Int32 × Int32 × SNP} {s0 : SNP} (hn : o_big ≤ n) (h_tc : I_MT tc) (t_tc : T_MT tc) (l0 : NF s0 z.2.2) (l1 : NP_pat s0 ≤ NP_pat z.2.2) (l2 : NP_ranges z.2.2 = NP_ranges s0) (l3 : I_NP z.2.2) : o_ok (m_MM_unicode_b30 n tc z) (fun q => (q.1 = 0 → NF s0 q.2.2.2 ∧ NP_pat s0 ≤ NP_pat q.2.2.2 ∧ NP_ranges q.2.2.2 = NP_ranges s0 ∧ I_NP q.2.2.2 ∧ o_mu (NP_pat q.2.2.2) < o_mu (NP_pat z.2.2)) ∧ (q.1 ≠ 0 → NF s0 q.2.2.2 ∧ NP_pat s0 ≤ NP_pat q.2.2.2 ∧ NP_ranges q.2.2.2 = NP_ranges s0 ∧ I_NP q.2.2.2)) := by
  unfold m_MM_unicode_b30
  refine o_okB (s_MM_p  h_tc t_tc l3 (by first | with_reducible exact True.intro | with_reducible assumption | grind [-Prod, → sc_NF] | grind [-Prod, → sc_MT, → sc_NP, → sc_NF] | grind [-Prod, I_MT, I_NP, o_bn, upd, → sc_NF]) (by first | with_reducible exact True.intro | with_reducible assumption | grind [-Prod, → sc_NF] | grind [-Prod, → sc_MT, → sc_NP, → sc_NF] | grind [-Prod, I_MT, I_NP, o_bn, upd, → sc_NF])) ?_
  intro q2_1 g2
  refine o_okI (fun c3 => ?_) (fun c3 => ?_)
  · refine o_okS ?_
    refine ⟨fun h => absurd (show (2 : Nat) = 0 from h) (by decide), fun _ => ?_⟩
    refine ⟨?_, ?_, ?_, ?_⟩
    · exact l0
    · first | with_reducible exact True.intro | with_reducible assumption | grind [-Prod, → sc_NF] | grind [-Prod, → sc_MT, → sc_NP, → sc_NF] | grind [-Prod, I_MT, I_NP, o_bn, upd, → sc_NF]
    · first | with_reducible exact True.intro | with_reducible assumption | grind [-Prod, → sc_NF] | grind [-Prod, → sc_MT, → sc_NP, → sc_NF] | grind [-Prod, I_MT, I_NP, o_bn, upd, → sc_NF]
    · exact l3
  · refine o_okB (s_MM_p  h_tc t_tc l3 (by first | with_reducible exact True.intro | with_reducible assumption | grind [-Prod, → sc_NF] | grind [-Prod, → sc_MT, → sc_NP, → sc_NF] | grind [-Prod, I_MT, I_NP, o_bn, upd, → sc_NF]) (by first | with_reducible exact True.intro | with_reducible assumption | grind [-Prod, → sc_NF] | grind [-Prod, → sc_MT, → sc_NP, → sc_NF] | grind [-Prod, I_MT, I_NP, o_bn, upd, → sc_NF])) ?_
    intro q3_4 g5
    refine o_okB (s_MT_hex ) ?_
    intro q4_6 _
    refine o_okI (fun c7 => ?_) (fun c7 => ?_)
    · refine o_okS ?_
      refine ⟨fun h => absurd (show (2 : Nat) = 0 from h) (by decide), fun _ => ?_⟩
      refine ⟨?_, ?_, ?_, ?_⟩
      · exact l0
      · first | with_reducible exact True.intro | with_reducible assumption | grind [-Prod, → sc_NF] | grind [-Prod, → sc_MT, → sc_NP, → sc_NF] | grind [-Prod, I_MT, I_NP, o_bn, upd, → sc_NF]
      · first | with_reducible exact True.intro | with_reducible assumption | grind [-Prod, → sc_NF] | grind [-Prod, → sc_MT, → sc_NP, → sc_NF] | grind [-Prod, I_MT, I_NP, o_bn, upd, → sc_NF]
      · exact l3
    · refine o_okB (s_MM_p  h_tc t_tc l3 (by first | with_reducible exact True.intro | with_reducible assumption | grind [-Prod, → sc_NF] | grind [-Prod, → sc_MT, → sc_NP, → sc_NF] | grind [-Prod, I_MT, I_NP, o_bn, upd, → sc_NF]) (by first | with_reducible exact True.intro | with_reducible assumption | grind [-Prod, → sc_NF] | grind [-Prod, → sc_MT, → sc_NP, → sc_NF] | grind [-Prod, I_MT, I_NP, o_bn, upd, → sc_NF])) ?_
      intro q5_8 g9
      refine o_okB (s_MT_hex ) ?_
      intro q6_10 _
      refine o_okN (fun x1_62_11 ex1_62_11 => ?_)
      refine o_okI (fun c12 => ?_) (fun c12 => ?_)
      · refine o_okN (fun x2_87_13 ex2_87_13 => ?_)
        refine o_okS ?_
        refine ⟨fun _ => ?_, fun h => absurd rfl h⟩
        refine ⟨?_, ?_, ?_, ?_, ?_⟩
        · exact (NF_trans l0 (show NF (z.2.2) _ from ⟨rfl, rfl, rfl, rfl, rfl, rfl, rfl, rfl⟩))
        · first | with_reducible exact True.intro | with_reducible assumption | grind [-Prod, → sc_NF] | grind [-Prod, → sc_MT, → sc_NP, → sc_NF] | grind [-Prod, I_MT, I_NP, o_bn, upd, → sc_NF]
        · first | with_reducible exact True.intro | with_reducible assumption | grind [-Prod, → sc_NF] | grind [-Prod, → sc_MT, → sc_NP, → sc_NF] | grind [-Prod, I_MT, I_NP, o_bn, upd, → sc_NF]
        · exact (I_patU l3 (by first | with_reducible exact True.intro | with_reducible assumption | grind [-Prod, → sc_NF] | grind [-Prod, → sc_MT, → sc_NP, → sc_NF] | grind [-Prod, I_MT, I_NP, o_bn, upd, → sc_NF]))
        · first | exact o_muL (by first | with_reducible exact True.intro | with_reducible assumption | grind [-Prod, → sc_NF] | grind [-Prod, → sc_MT, → sc_NP, → sc_NF] | grind [-Prod, I_MT, I_NP, o_bn, upd, → sc_NF]) | exact o_nuL (by first | with_reducible exact True.intro | with_reducible assumption | grind [-Prod, → sc_NF] | grind [-Prod, → sc_MT, → sc_NP, → sc_NF] | grind [-Prod, I_MT, I_NP, o_bn, upd, → sc_NF]) | (first | with_reducible exact True.intro | with_reducible assumption | grind [-Prod, → sc_NF] | grind [-Prod, → sc_MT, → sc_NP, → sc_NF] | grind [-Prod, I_MT, I_NP, o_bn, upd, → sc_NF])
      · refine o_okS ?_
        refine ⟨fun h => absurd (show (1 : Nat) = 0 from h) (by decide), fun _ => ?_⟩
        refine ⟨?_, ?_, ?_, ?_⟩
        · exact l0
        · first | with_reducible exact True.intro | with_reducible assumption | grind [-Prod, → sc_NF] | grind [-Prod, → sc_MT, → sc_NP, → sc_NF] | grind [-Prod, I_MT, I_NP, o_bn, upd, → sc_NF]
        · first | with_reducible exact True.intro | with_reducible assumption | grind [-Prod, → sc_NF] | grind [-Prod, → sc_MT, → sc_NP, → sc_NF] | grind [-Prod, I_MT, I_NP, o_bn, upd, → sc_NF]
        · exact l3
theorem l_MM_unicode_b30 {n : Nat} {tc : SMT} {z : Int32 × Int32 × SNP} {s0 : SNP} (hn : o_big ≤ n) (h_tc : I_MT tc) (t_tc : T_MT tc) (l0 : NF s0 z.2.2) (l1 : NP_pat s0 ≤ NP_pat z.2.2) (l2 : NP_ranges z.2.2 = NP_ranges s0) (l3 : I_NP z.2.2) : o_ok (o_lp n (m_MM_unicode_b30 n tc) z) (fun q => q.1 ≠ 0 ∧ NF s0 q.2.2.2 ∧ NP_pat s0 ≤ NP_pat q.2.2.2 ∧ NP_ranges q.2.2.2 = NP_ranges s0 ∧ I_NP q.2.2.2) := by
  exact o_lpR (fun z => NF s0 z.2.2 ∧ NP_pat s0 ≤ NP_pat z.2.2 ∧ NP_ranges z.2.2 = NP_ranges s0 ∧ I_NP z.2.2) (fun z => o_mu (NP_pat z.2.2)) hn (o_muB) ⟨l0, l1, l2, l3⟩
    (fun z hz => by obtain ⟨l0, l1, l2, l3⟩ := hz; exact o_okW (s_MM_unicode_b30 (s0 := s0) hn h_tc t_tc l0 l1 l2 l3) (fun q hq => ⟨fun h => by have := hq.1 h; grind, hq.2⟩))
theorem s_MM_unicode {n : Nat} {tc : SMT} {Np : SNP} (hn : o_big ≤ n) (h_tc : I_MT tc) (t_tc : T_MT tc) (h_Np : I_NP Np) : o_ok (m_MM_unicode n tc Np) (fun r => NF Np r.2 ∧ NP_pat Np ≤ NP_pat r.2 ∧ NP_ranges r.2 = NP_ranges Np ∧ I_NP r.2) := by
  unfold m_MM_unicode
  refine o_okB (s_MM_p  h_tc t_tc h_Np (by first | with_reducible exact True.intro | with_reducible assumption | grind [-Prod, → sc_NF] | grind [-Prod, → sc_MT, → sc_NP, → sc_NF] | grind [-Prod, I_MT, I_NP, o_bn, upd, → sc_NF]) (by first | with_reducible exact True.intro | with_reducible assumption | grind [-Prod, → sc_NF] | grind [-Prod, → sc_MT, → sc_NP, → sc_NF] | grind [-Prod, I_MT, I_NP, o_bn, upd, → sc_NF])) ?_
  intro q1_1 g2
  refine o_okI (fun c3 => ?_) (fun c3 => ?_)
  · refine o_okB (l_MM_unicode_b30 (s0 := Np) hn h_tc t_tc (show NF (Np) _ from ⟨rfl, rfl, rfl, rfl, rfl, rfl, rfl, rfl⟩) (by first | with_reducible exact True.intro | with_reducible assumption | grind [-Prod, → sc_NF] | grind [-Prod, → sc_MT, → sc_NP, → sc_NF] | grind [-Prod, I_MT, I_NP, o_bn, upd, → sc_NF]) (by first | with_reducible exact True.intro | with_reducible assumption | grind [-Prod, → sc_NF] | grind [-Prod, → sc_MT, → sc_NP, → sc_NF] | grind [-Prod, I_MT, I_NP, o_bn, upd, → sc_NF]) (I_patU h_Np (by first | with_reducible exact True.intro | with_reducible assumption | grind [-Prod, → sc_NF] | grind [-Prod, → sc_MT, → sc_NP, → sc_NF] | grind [-Prod, I_MT, I_NP, o_bn, upd, → sc_NF]))) ?_
    intro q7_4 ⟨yq7_4, g5, g6, g7, g8⟩
    refine o_okI (fun c9 => ?_) (fun c9 => ?_)
    · refine o_okS ?_
      refine ⟨?_, ?_, ?_, ?_⟩
      · exact (NF_trans g5 (show NF (q7_4.2.2.2) _ from ⟨rfl, rfl, rfl, rfl, rfl, rfl, rfl, rfl⟩))
      · first | with_reducible exact True.intro | with_reducible assumption | grind [-Prod, → sc_NF] | grind [-Prod, → sc_MT, → sc_NP, → sc_NF] | grind [-Prod, I_MT, I_NP, o_bn, upd, → sc_NF]
      · first | with_reducible exact True.intro | with_reducible assumption | grind [-Prod, → sc_NF] | grind [-Prod, → sc_MT, → sc_NP, → sc_NF] | grind [-Prod, I_MT, I_NP, o_bn, upd, → sc_NF]
      · exact (show I_NP _ from g8)
    · unfold m_MM_unicode_j93
      refine o_okI (fun c10 => ?_) (fun c10 => ?_)
      · refine o_okS ?_
        refine ⟨?_, ?_, ?_, ?_⟩
        · exact (NF_trans g5 (show NF (q7_4.2.2.2) _ from ⟨rfl, rfl, rfl, rfl, rfl, rfl, rfl, rfl⟩))
        · first | with_reducible exact True.intro | with_reducible assumption | grind [-Prod, → sc_NF] | grind [-Prod, → sc_MT, → sc_NP, → sc_NF] | grind [-Prod, I_MT, I_NP, o_bn, upd, → sc_NF]
        · first | with_reducible exact True.intro | with_reducible assumption | grind [-Prod, → sc_NF] | grind [-Prod, → sc_MT, → sc_NP, → sc_NF] | grind [-Prod, I_MT, I_NP, o_bn, upd, → sc_NF]
        · exact (show I_NP _ from g8)
      · refine o_okB (s_MM_p  h_tc t_tc g8 (by first | with_reducible exact True.intro | with_reducible assumption | grind [-Prod, → sc_NF] | grind [-Prod, → sc_MT, → sc_NP, → sc_NF] | grind [-Prod, I_MT, I_NP, o_bn, upd, → sc_NF]) (by first | with_reducible exact True.intro | with_reducible assumption | grind [-Prod, → sc_NF] | grind [-Prod, → sc_MT, → sc_NP, → sc_NF] | grind [-Prod, I_MT, I_NP, o_bn, upd, → sc_NF])) ?_
        intro q8_11 g12
        refine o_okI (fun c13 => ?_) (fun c13 => ?_)
        · refine o_okS ?_
          refine ⟨?_, ?_, ?_, ?_⟩
          · exact (NF_trans g5 (show NF (q7_4.2.2.2) _ from ⟨rfl, rfl, rfl, rfl, rfl, rfl, rfl, rfl⟩))
          · first | with_reducible exact True.intro | with_reducible assumption | grind [-Prod, → sc_NF] | grind [-Prod, → sc_MT, → sc_NP, → sc_NF] | grind [-Prod, I_MT, I_NP, o_bn, upd, → sc_NF]
          · first | with_reducible exact True.intro | with_reducible assumption | grind [-Prod, → sc_NF] | grind [-Prod, → sc_MT, → sc_NP, → sc_NF] | grind [-Prod, I_MT, I_NP, o_bn, upd, → sc_NF]
          · exact (I_patU g8 (by first | with_reducible exact True.intro | with_reducible assumption | grind [-Prod, → sc_NF] | grind [-Prod, → sc_MT, → sc_NP, → sc_NF] | grind [-Prod, I_MT, I_NP, o_bn, upd, → sc_NF]))
        · refine o_okS ?_
          refine ⟨?_, ?_, ?_, ?_⟩
          · exact (NF_trans g5 (show NF (q7_4.2.2.2) _ from ⟨rfl, rfl, rfl, rfl, rfl, rfl, rfl, rfl⟩))
          · first | with_reducible exact True.intro | with_reducible assumption | grind [-Prod, → sc_NF] | grind [-Prod, → sc_MT, → sc_NP, → sc_NF] | grind [-Prod, I_MT, I_NP, o_bn, upd, → sc_NF]
          · first | with_reducible exact True.intro | with_reducible assumption | grind [-Prod, → sc_NF] | grind [-Prod, → sc_MT, → sc_NP, → sc_NF] | grind [-Prod, I_MT, I_NP, o_bn, upd, → sc_NF]
          · exact (show I_NP _ from g8)
  · refine o_okB (s_MM_hex  hn h_tc t_tc h_Np) ?_
    intro q9_14 ⟨g15, g16, g17, g18⟩
    refine o_okS ?_
    refine ⟨?_, ?_, ?_, ?_⟩
    · exact g15
    · first | with_reducible exact True.intro | with_reducible assumption | grind [-Prod, → sc_NF] | grind [-Prod, → sc_MT, → sc_NP, → sc_NF] | grind [-Prod, I_MT, I_NP, o_bn, upd, → sc_NF]
    · first | with_reducible exact True.intro | with_reducible assumption | grind [-Prod, → sc_NF] | grind [-Prod, → sc_MT, → sc_NP, → sc_NF] | grind [-Prod, I_MT, I_NP, o_bn, upd, → sc_NF]
    · exact g18
