/-! The reference's patterns: the nodes as a graph; ghosts: rank, bound, owner, place in the owner's row -/
abbrev gi (x : Int32) : Nat := x.toNatClampNeg
abbrev GH : Type := Nat → Nat × Nat × Int32 × Nat
def GX (K A B C X : Nat → Int32) (m : Int32) (g : GH) (x : Int32) : Prop :=
  ((g (gi x)).1 < (g (gi x)).2.1 ∧ (g (gi x)).2.1 ≤ 100 ∧ 0 ≤ K (gi x) ∧ K (gi x) ≤ 6) ∧
  (X (gi x) = -1 ∨ (x < X (gi x) ∧ X (gi x) < m ∧ (g (gi (X (gi x)))).2.1 ≤ (g (gi x)).2.1 ∧ (K (gi (X (gi x))) = 5 → 1 ≤ B (gi (X (gi x)))) ∧
    (K (gi x) = 4 → K (gi (X (gi x))) = 4 ∧ (g (gi (X (gi x)))).2.2.1 = (g (gi x)).2.2.1 ∧ (g (gi (X (gi x)))).2.2.2 = (g (gi x)).2.2.2 + 1 ∧ 0 ≤ (g (gi x)).2.2.1 ∧ (g (gi x)).2.2.1 < m ∧ (((g (gi (X (gi x)))).2.2.2 : Nat) : Int) ≤ (B (gi (g (gi x)).2.2.1)).toInt))) ∧
  (K (gi x) = 4 → A (gi x) = -1 ∨ (0 ≤ A (gi x) ∧ A (gi x) < m ∧ (g (gi (A (gi x)))).2.1 ≤ (g (gi x)).1 ∧ (K (gi (A (gi x))) = 5 → 1 ≤ B (gi (A (gi x)))))) ∧
  (K (gi x) = 5 → (A (gi x) = -1 ∨ (0 ≤ A (gi x) ∧ A (gi x) < m ∧ (g (gi (A (gi x)))).2.1 ≤ (g (gi x)).1 ∧ K (gi (A (gi x))) = 4 ∧ (g (gi (A (gi x)))).2.2.1 = x ∧ (g (gi (A (gi x)))).2.2.2 = 1)) ∧ 0 ≤ B (gi x) ∧ B (gi x) ≤ 4002) ∧
  (K (gi x) = 6 → (0 ≤ A (gi x) ∧ A (gi x) < m ∧ (g (gi (A (gi x)))).1 < (g (gi x)).1 ∧ (K (gi (A (gi x))) = 5 → 1 ≤ B (gi (A (gi x))))) ∧ 0 ≤ B (gi x) ∧ B (gi x) ≤ 50 ∧ C (gi x) ≤ 50 ∧ (C (gi x) < 0 ∨ B (gi x) ≤ C (gi x))) ∧
  (K (gi x) = 1 → 0 ≤ A (gi x) ∧ A (gi x) < 8000)
theorem GX_mv {K A B C X K' A' B' C' X' : Nat → Int32} {m m' : Int32} {g g' : GH} {x : Int32} (h0 : 0 ≤ x) (hx : x < m) (hm : m ≤ m')
    (hK : ∀ y : Int32, 0 ≤ y → y < m → K' (gi y) = K (gi y) ∧ g' (gi y) = g (gi y) ∧ B (gi y) ≤ B' (gi y))
    (hA : A' (gi x) = A (gi x)) (hC : C' (gi x) = C (gi x)) (hX : X' (gi x) = X (gi x)) (hB : B' (gi x) = B (gi x) ∨ (K (gi x) = 5 ∧ 0 ≤ B' (gi x) ∧ B' (gi x) ≤ 4002))
    (h : GX K A B C X m g x) : GX K' A' B' C' X' m' g' x := by
  obtain ⟨k1, k2, k3⟩ := hK x h0 hx
  obtain ⟨c1, c2, c3, c4, c5, c6⟩ := h
  unfold GX
  rw [k1, k2, hA, hC, hX]
  refine ⟨c1, ?_, fun e => ?_, fun e => ?_, fun e => ?_, c6⟩
  · rcases c2 with e | ⟨d1, d2, d3, d7, d4⟩
    · exact Or.inl e
    · right
      obtain ⟨j1, j2, j3⟩ := hK (X (gi x)) (Int32.le_of_lt (Int32.lt_of_le_of_lt h0 d1)) d2
      rw [j1, j2]
      refine ⟨d1, Int32.lt_of_lt_of_le d2 hm, d3, fun e => Int32.le_trans (d7 e) j3, fun e => ?_⟩
      obtain ⟨f1, f2, f3, f4, f5, f6⟩ := d4 e
      exact ⟨f1, f2, f3, f4, Int32.lt_of_lt_of_le f5 hm, Int.le_trans f6 (Int32.le_iff_toInt_le.mp (hK _ f4 f5).2.2)⟩
  · rcases c3 e with e | ⟨d1, d2, d3, d7⟩
    · exact Or.inl e
    · right
      obtain ⟨j1, j2, j3⟩ := hK (A (gi x)) d1 d2
      rw [j1, j2]
      exact ⟨d1, Int32.lt_of_lt_of_le d2 hm, d3, fun e => Int32.le_trans (d7 e) j3⟩
  · obtain ⟨d0, b1, b2⟩ := c4 e
    refine ⟨?_, ?_⟩
    · rcases d0 with e | ⟨d1, d2, d3, d4, d5, d6⟩
      · exact Or.inl e
      · right
        obtain ⟨j1, j2, -⟩ := hK (A (gi x)) d1 d2
        rw [j1, j2]
        exact ⟨d1, Int32.lt_of_lt_of_le d2 hm, d3, d4, d5, d6⟩
    · rcases hB with e2 | ⟨-, e2⟩
      · rw [e2]; exact ⟨b1, b2⟩
      · exact e2
  · obtain ⟨⟨d1, d2, d3, d7⟩, b⟩ := c5 e
    obtain ⟨j1, j2, j3⟩ := hK (A (gi x)) d1 d2
    rw [j1, j2]
    refine ⟨⟨d1, Int32.lt_of_lt_of_le d2 hm, d3, fun e => Int32.le_trans (d7 e) j3⟩, ?_⟩
    rcases hB with e2 | ⟨e2, -⟩
    · rw [e2]; exact b
    · rw [e] at e2; exact absurd e2 (by decide)
/-- the graph of a state -/
def GN (s : SNP) (g : GH) : Prop := ∀ x : Int32, 0 ≤ x → x < NP_nodes s → GX (NP_nodeKind s) (NP_nodeA s) (NP_nodeB s) (NP_nodeC s) (NP_nodeNext s) (NP_nodes s) g x
/-- old nodes are as they were -/
def XN (s t : SNP) : Prop := NP_nodes s ≤ NP_nodes t ∧ ∀ x : Int32, 0 ≤ x → x < NP_nodes s → NP_nodeKind t (gi x) = NP_nodeKind s (gi x) ∧ NP_nodeA t (gi x) = NP_nodeA s (gi x) ∧ NP_nodeB t (gi x) = NP_nodeB s (gi x) ∧ NP_nodeC t (gi x) = NP_nodeC s (gi x) ∧ NP_nodeNext t (gi x) = NP_nodeNext s (gi x)
theorem XN_rfl {s : SNP} : XN s s := ⟨Int32.le_refl _, fun _ _ _ => ⟨rfl, rfl, rfl, rfl, rfl⟩⟩
theorem XN_trans {a b c : SNP} (h : XN a b) (k : XN b c) : XN a c := by
  refine ⟨Int32.le_trans h.1 k.1, fun x h0 hx => ?_⟩
  obtain ⟨a1, a2, a3, a4, a5⟩ := h.2 x h0 hx
  obtain ⟨b1, b2, b3, b4, b5⟩ := k.2 x h0 (Int32.lt_of_lt_of_le hx h.1)
  exact ⟨b1.trans a1, b2.trans a2, b3.trans a3, b4.trans a4, b5.trans a5⟩
theorem NF_XN {a b : SNP} (h : NF a b) : XN a b := by
  obtain ⟨a1, a2, a3, a4, a5, a6, a7, a8⟩ := h
  refine ⟨by rw [a6]; exact Int32.le_refl _, fun x _ _ => ?_⟩
  rw [a1, a2, a3, a4, a5]
  exact ⟨rfl, rfl, rfl, rfl, rfl⟩
theorem NF_GN {a b : SNP} {g : GH} (h : NF a b) (k : GN a g) : GN b g := by
  obtain ⟨a1, a2, a3, a4, a5, a6, a7, a8⟩ := h
  unfold GN at k ⊢
  rw [a1, a2, a3, a4, a5, a6]
  exact k
/-- ghosts agree below m -/
def AG (m : Int32) (g g' : GH) : Prop := ∀ x : Int32, 0 ≤ x → x < m → g' (gi x) = g (gi x)
theorem AG_rfl {m : Int32} {g : GH} : AG m g g := fun _ _ _ => rfl
theorem AG_trans {m m' : Int32} {a b c : GH} (hm : m ≤ m') (h : AG m a b) (k : AG m' b c) : AG m a c := fun x h0 hx => (k x h0 (Int32.lt_of_lt_of_le hx hm)).trans (h x h0 hx)
def gup (g : GH) (k : Nat) (v : Nat × Nat × Int32 × Nat) : GH := fun j => if j = k then v else g j
theorem gupE {g : GH} {k : Nat} {v : Nat × Nat × Int32 × Nat} : gup g k v k = v := by
  unfold gup; rw [if_pos rfl]
theorem gupN {g : GH} {k j : Nat} {v : Nat × Nat × Int32 × Nat} (h : j ≠ k) : gup g k v j = g j := by
  unfold gup; rw [if_neg h]
/-- a node more, its B and C as they may be -/
def ADM (a b : SNP) (k x y z : Int32) : Prop := NP_nodeKind b = upd (NP_nodeKind a) (gi (NP_nodes a)) k ∧ NP_nodeA b = upd (NP_nodeA a) (gi (NP_nodes a)) x ∧
  (∀ j, NP_nodeB b j = upd (NP_nodeB a) (gi (NP_nodes a)) y j) ∧ (∀ j, NP_nodeC b j = upd (NP_nodeC a) (gi (NP_nodes a)) z j) ∧ NP_nodeNext b = upd (NP_nodeNext a) (gi (NP_nodes a)) (-1) ∧ NP_nodes b = NP_nodes a + 1
theorem ADN_M {a b : SNP} {k x : Int32} (h : ADN a b k x) : ADM a b k x 0 0 := by
  obtain ⟨a1, a2, a3, a4, a5, a6, a7⟩ := h
  exact ⟨a1, a2, fun j => by rw [a3], fun j => by rw [a4], a5, a6⟩
theorem ADM_XN {a b : SNP} {k x y z : Int32} (h0 : 0 ≤ NP_nodes a) (h1 : NP_nodes a ≤ 15000) (h : ADM a b k x y z) : XN a b := by
  obtain ⟨a1, a2, a3, a4, a5, a6⟩ := h
  refine ⟨by rw [a6]; grind, fun q q0 hq => ?_⟩
  have nn := o_nev q0 h0 hq
  rw [a1, a2, a3, a4, a5, o_updN nn, o_updN nn, o_updN nn, o_updN nn, o_updN nn]
  exact ⟨rfl, rfl, rfl, rfl, rfl⟩
theorem ADM_G {a b : SNP} {k x y z : Int32} {g : GH} {v : Nat × Nat × Int32 × Nat} (h0 : 0 ≤ NP_nodes a) (h1 : NP_nodes a ≤ 15000) (h : ADM a b k x y z) (hg : GN a g) (hv : v.1 < v.2.1 ∧ v.2.1 ≤ 100) (hk : 0 ≤ k ∧ k ≤ 6)
    (k4 : k = 4 → x = -1) (k5 : k = 5 → x = -1 ∧ 0 ≤ y ∧ y ≤ 4002) (k6 : k = 6 → (0 ≤ x ∧ x < NP_nodes a ∧ (g (gi x)).1 < v.1 ∧ (NP_nodeKind a (gi x) = 5 → 1 ≤ NP_nodeB a (gi x))) ∧ 0 ≤ y ∧ y ≤ 50 ∧ z ≤ 50 ∧ (z < 0 ∨ y ≤ z)) (k1 : k = 1 → 0 ≤ x ∧ x < 8000) :
    GN b (gup g (gi (NP_nodes a)) v) ∧ AG (NP_nodes a) g (gup g (gi (NP_nodes a)) v) := by
  have ag : AG (NP_nodes a) g (gup g (gi (NP_nodes a)) v) := fun q q0 hq => gupN (o_nev q0 h0 hq)
  have xn := ADM_XN h0 h1 h
  obtain ⟨a1, a2, a3, a4, a5, a6⟩ := h
  refine ⟨?_, ag⟩
  intro q q0 hq
  by_cases hq2 : q < NP_nodes a
  · obtain ⟨e1, e2, e3, e4, e5⟩ := xn.2 q q0 hq2
    exact GX_mv q0 hq2 xn.1 (fun w w0 hw => ⟨(xn.2 w w0 hw).1, ag w w0 hw, by rw [(xn.2 w w0 hw).2.2.1]; exact Int32.le_refl _⟩) e2 e4 e5 (Or.inl e3) (hg q q0 hq2)
  · have eq : q = NP_nodes a := by rw [a6] at hq; clear hg ag xn a1 a2 a3 a4 a5; grind
    subst eq
    unfold GX
    have u1 : NP_nodeKind b (gi (NP_nodes a)) = k := by rw [a1]; exact o_updE
    have u2 : NP_nodeA b (gi (NP_nodes a)) = x := by rw [a2]; exact o_updE
    have u3 : NP_nodeB b (gi (NP_nodes a)) = y := by rw [a3]; exact o_updE
    have u4 : NP_nodeC b (gi (NP_nodes a)) = z := by rw [a4]; exact o_updE
    have u5 : NP_nodeNext b (gi (NP_nodes a)) = -1 := by rw [a5]; exact o_updE
    rw [u1, u2, u3, u4, u5, gupE]
    refine ⟨⟨hv.1, hv.2, hk⟩, Or.inl rfl, fun e => Or.inl (k4 e), fun e => ⟨Or.inl (k5 e).1, (k5 e).2⟩, fun e => ?_, k1⟩
    obtain ⟨⟨d1, d2, d3, d4⟩, b⟩ := k6 e
    obtain ⟨w1, w2, w3, w4, w5⟩ := xn.2 x d1 d2
    refine ⟨⟨d1, ?_, ?_, ?_⟩, b⟩
    · rw [a6]; clear hg ag xn a1 a2 a3 a4 a5; grind
    · rw [gupN (o_nev d1 h0 d2)]; exact d3
    · rw [w1, w3]; exact d4
/-- next of an element -/
theorem GN_next {a b : SNP} {g : GH} {l n : Int32} (hg : GN a g) (l0 : 0 ≤ l) (ln : l < n) (nm : n < NP_nodes a) (hb : (g (gi n)).2.1 ≤ (g (gi l)).2.1) (hb5 : NP_nodeKind a (gi n) = 5 → 1 ≤ NP_nodeB a (gi n)) (hk : NP_nodeKind a (gi l) ≠ 4)
    (e1 : NP_nodeKind b = NP_nodeKind a) (e2 : NP_nodeA b = NP_nodeA a) (e3 : NP_nodeB b = NP_nodeB a) (e4 : NP_nodeC b = NP_nodeC a) (e5 : NP_nodeNext b = upd (NP_nodeNext a) (gi l) n) (e6 : NP_nodes b = NP_nodes a) : GN b g := by
  intro q q0 hq
  rw [e1, e2, e3, e4, e5, e6]
  rw [e6] at hq
  have G := hg q q0 hq
  by_cases hql : q = l
  · subst hql
    unfold GX at G ⊢
    rw [o_updE]
    exact ⟨G.1, Or.inr ⟨ln, nm, hb, hb5, fun e => absurd e hk⟩, G.2.2⟩
  · have nn : gi q ≠ gi l := o_neq q0 l0 hql
    exact GX_mv q0 hq (Int32.le_refl _) (fun w w0 hw => ⟨rfl, rfl, Int32.le_refl _⟩) rfl rfl (o_updN nn) (Or.inl rfl) G
/-- first of a row -/
theorem GN_row {a b : SNP} {g : GH} {r n : Int32} (hg : GN a g) (r0 : 0 ≤ r) (n0 : 0 ≤ n) (nm : n < NP_nodes a) (hb : (g (gi n)).2.1 ≤ (g (gi r)).1) (hb5 : NP_nodeKind a (gi n) = 5 → 1 ≤ NP_nodeB a (gi n)) (hk : NP_nodeKind a (gi r) = 4)
    (e1 : NP_nodeKind b = NP_nodeKind a) (e2 : NP_nodeA b = upd (NP_nodeA a) (gi r) n) (e3 : NP_nodeB b = NP_nodeB a) (e4 : NP_nodeC b = NP_nodeC a) (e5 : NP_nodeNext b = NP_nodeNext a) (e6 : NP_nodes b = NP_nodes a) : GN b g := by
  intro q q0 hq
  rw [e1, e2, e3, e4, e5, e6]
  rw [e6] at hq
  have G := hg q q0 hq
  by_cases hql : q = r
  · subst hql
    unfold GX at G ⊢
    rw [o_updE]
    exact ⟨G.1, G.2.1, fun _ => Or.inr ⟨n0, nm, hb, hb5⟩, fun e => absurd (hk.symm.trans e) (by decide), fun e => absurd (hk.symm.trans e) (by decide), fun e => absurd (hk.symm.trans e) (by decide)⟩
  · have nn : gi q ≠ gi r := o_neq q0 r0 hql
    exact GX_mv q0 hq (Int32.le_refl _) (fun w w0 hw => ⟨rfl, rfl, Int32.le_refl _⟩) (o_updN nn) rfl rfl (Or.inl rfl) G
theorem o_incI {x : Int32} (h0 : 0 ≤ x) (h : x ≤ 4001) : (x + 1).toInt = x.toInt + 1 := o_add1 (by grind)
theorem GB_up {B : Nat → Int32} {w : Int32} (h0 : 0 ≤ B (gi w)) (h1 : B (gi w) ≤ 4001) (y : Int32) : B (gi y) ≤ upd B (gi w) (B (gi w) + 1) (gi y) := by
  by_cases e : gi y = gi w
  · rw [e, o_updE]; generalize B (gi w) = b at h0 h1; grind
  · rw [o_updN e]; exact Int32.le_refl _
/-- the first of the ways -/
theorem GN_way1 {a b : SNP} {g : GH} {w r : Int32} (hg : GN a g) (w0 : 0 ≤ w) (r0 : 0 ≤ r) (rm : r < NP_nodes a) (hb : (g (gi r)).2.1 ≤ (g (gi w)).1) (hw : NP_nodeKind a (gi w) = 5) (hr : NP_nodeKind a (gi r) = 4) (ho : (g (gi r)).2.2.1 = w) (hp : (g (gi r)).2.2.2 = 1)
    (b0 : 0 ≤ NP_nodeB a (gi w)) (b1 : NP_nodeB a (gi w) ≤ 4001)
    (e1 : NP_nodeKind b = NP_nodeKind a) (e2 : NP_nodeA b = upd (NP_nodeA a) (gi w) r) (e3 : NP_nodeB b = upd (NP_nodeB a) (gi w) (NP_nodeB a (gi w) + 1)) (e4 : NP_nodeC b = NP_nodeC a) (e5 : NP_nodeNext b = NP_nodeNext a) (e6 : NP_nodes b = NP_nodes a) : GN b g := by
  have b2 : 0 ≤ NP_nodeB a (gi w) + 1 ∧ NP_nodeB a (gi w) + 1 ≤ 4002 := by clear hg e1 e2 e3 e4 e5 e6; constructor <;> grind
  intro q q0 hq
  rw [e1, e2, e3, e4, e5, e6]
  rw [e6] at hq
  have G := hg q q0 hq
  by_cases hql : q = w
  · subst hql
    have G2 := GX_mv (A' := NP_nodeA a) (B' := upd (NP_nodeB a) (gi q) (NP_nodeB a (gi q) + 1)) (m' := NP_nodes a) q0 hq (Int32.le_refl _) (fun y _ _ => ⟨rfl, rfl, GB_up b0 b1 y⟩) rfl rfl rfl (Or.inr ⟨hw, by rw [o_updE]; exact b2⟩) G
    unfold GX at G2 ⊢
    rw [o_updE (f := NP_nodeA a)]
    exact ⟨G2.1, G2.2.1, fun e => absurd (hw.symm.trans e) (by decide), fun _ => ⟨Or.inr ⟨r0, rm, hb, hr, ho, hp⟩, by rw [o_updE]; exact b2⟩, fun e => absurd (hw.symm.trans e) (by decide), fun e => absurd (hw.symm.trans e) (by decide)⟩
  · have nn : gi q ≠ gi w := o_neq q0 w0 hql
    exact GX_mv q0 hq (Int32.le_refl _) (fun y _ _ => ⟨rfl, rfl, GB_up b0 b1 y⟩) (o_updN nn) rfl rfl (Or.inl (o_updN nn)) G
/-- a further way -/
theorem GN_wayN {a b : SNP} {g : GH} {w l r : Int32} (hg : GN a g) (w0 : 0 ≤ w) (wm : w < NP_nodes a) (l0 : 0 ≤ l) (lr : l < r) (rm : r < NP_nodes a) (hb : (g (gi r)).2.1 ≤ (g (gi l)).2.1) (hw : NP_nodeKind a (gi w) = 5) (hl : NP_nodeKind a (gi l) = 4) (hr : NP_nodeKind a (gi r) = 4)
    (ol : (g (gi l)).2.2.1 = w) (ho : (g (gi r)).2.2.1 = w) (hp : (g (gi r)).2.2.2 = (g (gi l)).2.2.2 + 1) (hpb : (((g (gi r)).2.2.2 : Nat) : Int) ≤ (NP_nodeB a (gi w)).toInt + 1)
    (b0 : 0 ≤ NP_nodeB a (gi w)) (b1 : NP_nodeB a (gi w) ≤ 4001)
    (e1 : NP_nodeKind b = NP_nodeKind a) (e2 : NP_nodeA b = NP_nodeA a) (e3 : NP_nodeB b = upd (NP_nodeB a) (gi w) (NP_nodeB a (gi w) + 1)) (e4 : NP_nodeC b = NP_nodeC a) (e5 : NP_nodeNext b = upd (NP_nodeNext a) (gi l) r) (e6 : NP_nodes b = NP_nodes a) : GN b g := by
  have b2 : 0 ≤ NP_nodeB a (gi w) + 1 ∧ NP_nodeB a (gi w) + 1 ≤ 4002 := by clear hg e1 e2 e3 e4 e5 e6 hp hpb; constructor <;> grind
  intro q q0 hq
  rw [e1, e2, e3, e4, e5, e6]
  rw [e6] at hq
  have G := hg q q0 hq
  by_cases hql : q = l
  · subst hql
    unfold GX at G ⊢
    rw [o_updE (f := NP_nodeNext a)]
    refine ⟨G.1, Or.inr ⟨lr, rm, hb, fun e => absurd (hr.symm.trans e) (by decide), fun _ => ⟨hr, ho.trans ol.symm, hp, by rw [ol]; exact w0, by rw [ol]; exact wm, ?_⟩⟩, ?_, fun e => absurd (hl.symm.trans e) (by decide), fun e => absurd (hl.symm.trans e) (by decide), G.2.2.2.2.2⟩
    · rw [ol, o_updE, o_incI b0 b1]
      exact hpb
    · intro e
      rcases G.2.2.1 e with h | ⟨y1, y2, y3, y4⟩
      · exact Or.inl h
      · exact Or.inr ⟨y1, y2, y3, fun z => Int32.le_trans (y4 z) (GB_up b0 b1 _)⟩
  · have nn : gi q ≠ gi l := o_neq q0 l0 hql
    by_cases hqw : q = w
    · subst hqw
      exact GX_mv q0 hq (Int32.le_refl _) (fun y _ _ => ⟨rfl, rfl, GB_up b0 b1 y⟩) rfl rfl (o_updN nn) (Or.inr ⟨hw, by rw [o_updE]; exact b2⟩) G
    · have nw : gi q ≠ gi w := o_neq q0 w0 hqw
      exact GX_mv q0 hq (Int32.le_refl _) (fun y _ _ => ⟨rfl, rfl, GB_up b0 b1 y⟩) rfl rfl (o_updN nn) (Or.inl (o_updN nw)) G
