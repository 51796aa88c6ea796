/-! The two trees -/
def SEG (s u k : Int32) : Prop := 0 ≤ s ∧ s ≤ u ∧ k ≤ u - s
def KID (tc : STx) (a : SMT) (x m o : Int32) (cs : Int32 → Int32) : Prop := ∀ i : Int32, 0 ≤ i → i < m → x + o < cs i ∧ cs i < Tx_total tc ∧ Tx_parents tc (cs i).toNatClampNeg = x ∧ Tx_slots tc (cs i).toNatClampNeg = i ∧ (o = 1 → MT_name a (cs i).toNatClampNeg = cs i - 1 ∧ Tx_kinds tc (cs i - 1).toNatClampNeg = 4) ∧ MT_next a (cs i).toNatClampNeg = (if i + 1 < m then cs (i + 1) else -1) ∧ (i + 1 < m → cs (i + 1) = Tx_afters tc (cs i).toNatClampNeg + o)
def KIN (tc : STx) (a : SMT) (x m o : Int32) : Prop := 0 ≤ m ∧ m ≤ 60 ∧ ∃ cs : Int32 → Int32, cs 0 = x + 1 + o ∧ MT_first a x.toNatClampNeg = (if 0 < m then cs 0 else -1) ∧ KID tc a x m o cs
def NUM (tc : STx) (a : SMT) (X : Nat) : Prop := Tx_negatives tc X = MT_minus a X ∧ Tx_sizes tc X ≤ 60 ∧ SEG (Tx_starts tc X) (Tx_used tc) (Tx_sizes tc X) ∧ SEG (MT_from a X) (MT_written a) (Tx_sizes tc X) ∧ CEL (Tx_cells tc) (MT_digits a) (Tx_starts tc X) (MT_from a X) (Tx_sizes tc X)
def STN (tc : STx) (a : SMT) (X : Nat) : Prop := SEG (Tx_starts tc X) (Tx_used tc) (Tx_sizes tc X) ∧ SEG (MT_from a X) (MT_used a) (Tx_sizes tc X) ∧ CEL (Tx_cells tc) (MT_characters a) (Tx_starts tc X) (MT_from a X) (Tx_sizes tc X)
def SCA (tc : STx) (a : SMT) (X : Nat) : Prop := Tx_kinds tc X = MT_kind a X ∧ 0 ≤ MT_kind a X ∧ MT_kind a X ≤ 6 ∧ Tx_places tc X = MT_place a X ∧ Tx_parents tc X = MT_parent a X ∧ Tx_exponents tc X = MT_power a X
def NODE (tc : STx) (a : SMT) (x : Int32) : Prop := SCA tc a x.toNatClampNeg ∧ Tx_sizes tc x.toNatClampNeg = MT_many a x.toNatClampNeg ∧ 0 ≤ MT_many a x.toNatClampNeg ∧ (MT_kind a x.toNatClampNeg < 3 → MT_many a x.toNatClampNeg = 0) ∧ (MT_kind a x.toNatClampNeg = 3 → NUM tc a x.toNatClampNeg) ∧ (MT_kind a x.toNatClampNeg = 4 → STN tc a x.toNatClampNeg) ∧ (MT_kind a x.toNatClampNeg = 5 → KIN tc a x (MT_many a x.toNatClampNeg) 0) ∧ (MT_kind a x.toNatClampNeg = 6 → KIN tc a x (MT_many a x.toNatClampNeg) 1)
def CT (tc : STx) (a : SMT) (p : Int32) : Prop := Tx_total tc = MT_values a ∧ 0 ≤ MT_values a ∧ MT_values a ≤ 1000 ∧ Tx_characters tc = MT_used a ∧ 0 ≤ MT_used a ∧ MT_used a ≤ 4000 ∧ 0 ≤ Tx_used tc ∧ Tx_used tc ≤ p ∧ 0 ≤ MT_written a ∧ MT_written a ≤ p
def CF (lo : Int32) (tc tc' : STx) : Prop := Tx_used tc ≤ Tx_used tc' ∧ Tx_total tc ≤ Tx_total tc' ∧ (∀ i : Int32, 0 ≤ i → i < Tx_used tc → Tx_cells tc' i.toNatClampNeg = Tx_cells tc i.toNatClampNeg) ∧ ∀ x : Int32, 0 ≤ x → x < lo → Tx_kinds tc' x.toNatClampNeg = Tx_kinds tc x.toNatClampNeg ∧ Tx_places tc' x.toNatClampNeg = Tx_places tc x.toNatClampNeg ∧ Tx_sizes tc' x.toNatClampNeg = Tx_sizes tc x.toNatClampNeg ∧ Tx_parents tc' x.toNatClampNeg = Tx_parents tc x.toNatClampNeg ∧ Tx_exponents tc' x.toNatClampNeg = Tx_exponents tc x.toNatClampNeg ∧ Tx_starts tc' x.toNatClampNeg = Tx_starts tc x.toNatClampNeg ∧ Tx_afters tc' x.toNatClampNeg = Tx_afters tc x.toNatClampNeg ∧ Tx_slots tc' x.toNatClampNeg = Tx_slots tc x.toNatClampNeg ∧ Tx_negatives tc' x.toNatClampNeg = Tx_negatives tc x.toNatClampNeg
def MF (lo : Int32) (a a' : SMT) : Prop := MT_used a ≤ MT_used a' ∧ MT_written a ≤ MT_written a' ∧ (∀ i : Int32, 0 ≤ i → i < MT_used a → MT_characters a' i.toNatClampNeg = MT_characters a i.toNatClampNeg) ∧ (∀ i : Int32, 0 ≤ i → i < MT_written a → MT_digits a' i.toNatClampNeg = MT_digits a i.toNatClampNeg) ∧ ∀ x : Int32, 0 ≤ x → x < lo → MT_kind a' x.toNatClampNeg = MT_kind a x.toNatClampNeg ∧ MT_place a' x.toNatClampNeg = MT_place a x.toNatClampNeg ∧ MT_many a' x.toNatClampNeg = MT_many a x.toNatClampNeg ∧ MT_parent a' x.toNatClampNeg = MT_parent a x.toNatClampNeg ∧ MT_power a' x.toNatClampNeg = MT_power a x.toNatClampNeg ∧ MT_first a' x.toNatClampNeg = MT_first a x.toNatClampNeg ∧ MT_next a' x.toNatClampNeg = MT_next a x.toNatClampNeg ∧ MT_name a' x.toNatClampNeg = MT_name a x.toNatClampNeg ∧ MT_from a' x.toNatClampNeg = MT_from a x.toNatClampNeg ∧ MT_minus a' x.toNatClampNeg = MT_minus a x.toNatClampNeg
theorem CF_trans {lo lo' : Int32} {a b c : STx} (h : CF lo a b) (g : CF lo' b c) (hl : lo ≤ lo') : CF lo a c := by
  obtain ⟨h1, h2, h3, h4⟩ := h
  obtain ⟨g1, g2, g3, g4⟩ := g
  refine ⟨Int32.le_trans h1 g1, Int32.le_trans h2 g2, fun i i0 i1 => (g3 i i0 (Int32.lt_of_lt_of_le i1 h1)).trans (h3 i i0 i1), fun x x0 x1 => ?_⟩
  obtain ⟨a1, a2, a3, a4, a5, a6, a7, a8, a9⟩ := h4 x x0 x1
  obtain ⟨b1, b2, b3, b4, b5, b6, b7, b8, b9⟩ := g4 x x0 (Int32.lt_of_lt_of_le x1 hl)
  exact ⟨b1.trans a1, b2.trans a2, b3.trans a3, b4.trans a4, b5.trans a5, b6.trans a6, b7.trans a7, b8.trans a8, b9.trans a9⟩
theorem MF_trans {lo lo' : Int32} {a b c : SMT} (h : MF lo a b) (g : MF lo' b c) (hl : lo ≤ lo') : MF lo a c := by
  obtain ⟨h1, h2, h3, h5, h4⟩ := h
  obtain ⟨g1, g2, g3, g5, g4⟩ := g
  refine ⟨Int32.le_trans h1 g1, Int32.le_trans h2 g2, fun i i0 i1 => (g3 i i0 (Int32.lt_of_lt_of_le i1 h1)).trans (h3 i i0 i1), fun i i0 i1 => (g5 i i0 (Int32.lt_of_lt_of_le i1 h2)).trans (h5 i i0 i1), fun x x0 x1 => ?_⟩
  obtain ⟨a1, a2, a3, a4, a5, a6, a7, a8, a9, a10⟩ := h4 x x0 x1
  obtain ⟨b1, b2, b3, b4, b5, b6, b7, b8, b9, b10⟩ := g4 x x0 (Int32.lt_of_lt_of_le x1 hl)
  exact ⟨b1.trans a1, b2.trans a2, b3.trans a3, b4.trans a4, b5.trans a5, b6.trans a6, b7.trans a7, b8.trans a8, b9.trans a9, b10.trans a10⟩
theorem CF_rfl {lo : Int32} {a : STx} : CF lo a a := ⟨Int32.le_refl _, Int32.le_refl _, fun _ _ _ => rfl, fun _ _ _ => ⟨rfl, rfl, rfl, rfl, rfl, rfl, rfl, rfl, rfl⟩⟩
theorem MF_rfl {lo : Int32} {a : SMT} : MF lo a a := ⟨Int32.le_refl _, Int32.le_refl _, fun _ _ _ => rfl, fun _ _ _ => rfl, fun _ _ _ => ⟨rfl, rfl, rfl, rfl, rfl, rfl, rfl, rfl, rfl, rfl⟩⟩
theorem CF_lo {lo lo' : Int32} {a b : STx} (h : CF lo a b) (hl : lo' ≤ lo) : CF lo' a b := ⟨h.1, h.2.1, h.2.2.1, fun x x0 x1 => h.2.2.2 x x0 (Int32.lt_of_lt_of_le x1 hl)⟩
theorem MF_lo {lo lo' : Int32} {a b : SMT} (h : MF lo a b) (hl : lo' ≤ lo) : MF lo' a b := ⟨h.1, h.2.1, h.2.2.1, h.2.2.2.1, fun x x0 x1 => h.2.2.2.2 x x0 (Int32.lt_of_lt_of_le x1 hl)⟩
theorem CEL_tr {c d c' d' : Nat → Int32} {s f k u v : Int32} (hu : u ≤ 8192) (hv : v ≤ 8192) (hs : SEG s u k) (hf : SEG f v k) (hc : ∀ i : Int32, 0 ≤ i → i < u → c' i.toNatClampNeg = c i.toNatClampNeg) (hd : ∀ i : Int32, 0 ≤ i → i < v → d' i.toNatClampNeg = d i.toNatClampNeg) (h : CEL c d s f k) : CEL c' d' s f k := by
  intro i i0 i1
  obtain ⟨s1, s2, s3⟩ := hs
  obtain ⟨f1, f2, f3⟩ := hf
  rw [hc (s + i) (by grind) (by grind), hd (f + i) (by grind) (by grind)]
  exact h i i0 i1
theorem SEG_up {s u u' k : Int32} (h : SEG s u k) (hu : u ≤ u') (h0 : u' ≤ 8192) : SEG s u' k := by
  obtain ⟨h1, h2, h3⟩ := h
  exact ⟨h1, by grind, by grind⟩
theorem KID_tr {tc tc' : STx} {a a' : SMT} {x m o lo : Int32} {cs : Int32 → Int32} (hx : 0 ≤ x) (hx1 : x ≤ 1000) (ho : o = 0 ∨ o = 1) (hlo : Tx_total tc = lo) (hl2 : lo ≤ 1000) (hC : CF lo tc tc') (hM : MF lo a a') (h : KID tc a x m o cs) : KID tc' a' x m o cs := by
  intro i i0 i1
  obtain ⟨h1, h2, h3, h4, h5, h6, h7⟩ := h i i0 i1
  have c0 : 0 ≤ cs i := by rcases ho with rfl | rfl <;> grind
  have cl : cs i < lo := by rw [← hlo]; exact h2
  obtain ⟨a1, a2, a3, a4, a5, a6, a7, a8, a9⟩ := hC.2.2.2 (cs i) c0 cl
  obtain ⟨b1, b2, b3, b4, b5, b6, b7, b8, b9, b10⟩ := hM.2.2.2.2 (cs i) c0 cl
  refine ⟨h1, Int32.lt_of_lt_of_le h2 hC.2.1, a4.trans h3, a8.trans h4, ?_, b7.trans h6, ?_⟩
  · intro e
    subst e
    obtain ⟨k1, k2⟩ := h5 rfl
    refine ⟨b8.trans k1, ?_⟩
    rw [(hC.2.2.2 (cs i - 1) (by grind) (by grind)).1]
    exact k2
  · intro e
    rw [a7]
    exact h7 e
theorem KIN_tr {tc tc' : STx} {a a' : SMT} {x m o lo : Int32} (hx : 0 ≤ x) (hx1 : x < lo) (ho : o = 0 ∨ o = 1) (hlo : Tx_total tc = lo) (hl2 : lo ≤ 1000) (hC : CF lo tc tc') (hM : MF lo a a') (h : KIN tc a x m o) : KIN tc' a' x m o := by
  obtain ⟨h1, h2, cs, h3, h4, h5⟩ := h
  exact ⟨h1, h2, cs, h3, ((hM.2.2.2.2 x hx hx1).2.2.2.2.2.1).trans h4, KID_tr hx (by grind) ho hlo hl2 hC hM h5⟩
theorem NODE_tr {tc tc' : STx} {a a' : SMT} {x lo : Int32} (hx : 0 ≤ x) (hx1 : x < lo) (hlo : Tx_total tc = lo) (hl2 : lo ≤ 1000) (hu : Tx_used tc' ≤ 8192) (hv : MT_used a' ≤ 8192) (hw : MT_written a' ≤ 8192) (hC : CF lo tc tc') (hM : MF lo a a') (h : NODE tc a x) : NODE tc' a' x := by
  obtain ⟨⟨s1, s2, s3, s4, s5, s6⟩, h2, h3, h4, h5, h6, h7, h8⟩ := h
  obtain ⟨a1, a2, a3, a4, a5, a6, a7, a8, a9⟩ := hC.2.2.2 x hx hx1
  obtain ⟨b1, b2, b3, b4, b5, b6, b7, b8, b9, b10⟩ := hM.2.2.2.2 x hx hx1
  have hu0 : Tx_used tc ≤ 8192 := Int32.le_trans hC.1 hu
  have hv0 : MT_used a ≤ 8192 := Int32.le_trans hM.1 hv
  have hw0 : MT_written a ≤ 8192 := Int32.le_trans hM.2.1 hw
  refine ⟨⟨?_, ?_, ?_, ?_, ?_, ?_⟩, ?_, ?_, ?_, ?_, ?_, ?_, ?_⟩
  · rw [a1, b1]; exact s1
  · rw [b1]; exact s2
  · rw [b1]; exact s3
  · rw [a2, b2]; exact s4
  · rw [a4, b4]; exact s5
  · rw [a5, b5]; exact s6
  · rw [a3, b3]; exact h2
  · rw [b3]; exact h3
  · rw [b1, b3]; exact h4
  · rw [b1]
    intro e
    obtain ⟨n1, n2, n3, n4, n5⟩ := h5 e
    unfold NUM
    rw [a9, b10, a3, a6, b9]
    exact ⟨n1, n2, SEG_up n3 hC.1 hu, SEG_up n4 hM.2.1 hw, CEL_tr hu0 hw0 n3 n4 hC.2.2.1 hM.2.2.2.1 n5⟩
  · rw [b1]
    intro e
    obtain ⟨n3, n4, n5⟩ := h6 e
    unfold STN
    rw [a3, a6, b9]
    exact ⟨SEG_up n3 hC.1 hu, SEG_up n4 hM.1 hv, CEL_tr hu0 hv0 n3 n4 hC.2.2.1 hM.2.2.1 n5⟩
  · rw [b1, b3]
    exact fun e => KIN_tr hx hx1 (Or.inl rfl) hlo hl2 hC hM (h7 e)
  · rw [b1, b3]
    exact fun e => KIN_tr hx hx1 (Or.inr rfl) hlo hl2 hC hM (h8 e)
def NR (lo : Int32) (tc : STx) (a : SMT) : Prop := ∀ x : Int32, lo ≤ x → x < Tx_total tc → NODE tc a x
/-- both are at one place, with one count of all -/
def RO (w : Nat → Int32) (L p : Int32) (tc : STx) (Rd : SRd) (a : SMT) : Prop := RdOK w L p Rd ∧ MtOK w L p a ∧ BP L p ∧ CT tc a p
/-- a value has been read: the new nodes are alike, the old ones untouched -/
def TOP (tc : STx) (a : SMT) (x s : Int32) (tc' : STx) (a' : SMT) : Prop := MT_values a < MT_values a' ∧ CF (MT_values a) tc tc' ∧ MF (MT_values a) a a' ∧ NR (MT_values a) tc' a' ∧ Tx_slots tc' (MT_values a).toNatClampNeg = s ∧ Tx_parents tc' (MT_values a).toNatClampNeg = x ∧ Tx_afters tc' (MT_values a).toNatClampNeg = Tx_total tc' ∧ MT_next a' (MT_values a).toNatClampNeg = -1 ∧ MT_name a' (MT_values a).toNatClampNeg = -1
def RV (w : Nat → Int32) (L p : Int32) (tc : STx) (a : SMT) (x s : Int32) (r : Int32 × STx × SRd) (r' : Int32 × SMT) : Prop := (r.1 = 0 ∧ r'.1 = 0 ∧ FL r.2.2 r'.2) ∨ (r.1 = 1 ∧ r'.1 = 1 ∧ ∃ p', RO w L p' r.2.1 r.2.2 r'.2 ∧ TOP tc a x s r.2.1 r'.2)
abbrev bgT (tc : STx) (k p x s : Int32) : STx := Tx_mk (upd (Tx_kinds tc) (Tx_total tc).toNatClampNeg k) (upd (Tx_places tc) (Tx_total tc).toNatClampNeg p) (upd (Tx_sizes tc) (Tx_total tc).toNatClampNeg (0:Int32)) (upd (Tx_parents tc) (Tx_total tc).toNatClampNeg x) (upd (Tx_exponents tc) (Tx_total tc).toNatClampNeg (0:Int32)) (upd (Tx_starts tc) (Tx_total tc).toNatClampNeg (Tx_used tc)) (upd (Tx_afters tc) (Tx_total tc).toNatClampNeg ((Tx_total tc) + (1:Int32))) (upd (Tx_slots tc) (Tx_total tc).toNatClampNeg s) (upd (Tx_negatives tc) (Tx_total tc).toNatClampNeg (vp_nar .boolean (0:Int32))) (Tx_cells tc) ((Tx_total tc) + (1:Int32)) (Tx_used tc) (Tx_characters tc)
abbrev frM (a : SMT) (x k : Int32) : SMT := MT_mk (MT_text a) (upd (MT_kind a) (MT_values a).toNatClampNeg k) (upd (MT_place a) (MT_values a).toNatClampNeg (MT_at a)) (upd (MT_many a) (MT_values a).toNatClampNeg (0:Int32)) (upd (MT_parent a) (MT_values a).toNatClampNeg x) (upd (MT_power a) (MT_values a).toNatClampNeg (0:Int32)) (upd (MT_first a) (MT_values a).toNatClampNeg (-1:Int32)) (upd (MT_next a) (MT_values a).toNatClampNeg (-1:Int32)) (upd (MT_name a) (MT_values a).toNatClampNeg (-1:Int32)) (MT_from a) (MT_characters a) (MT_digits a) (MT_minus a) ((MT_values a) + (1:Int32)) (MT_letters a) (MT_at a) (MT_wrong a) (MT_used a) (MT_written a) (MT_left a)
theorem rr_begin {tc : STx} {k p x s : Int32} {r : Int32 × STx} (e : m_Tx_begin k p x s tc = some r) : (Tx_total tc < 1000 ∧ r = (Tx_total tc, bgT tc k p x s)) ∨ (1000 ≤ Tx_total tc ∧ r = (-1, tc)) := by
  unfold m_Tx_begin at e
  by_cases c : Tx_total tc < 1000
  · have e := o_tt c e
    unfold o_nm at e
    iterate 9 replace e := (o_gd_some e).2
    cases e
    exact Or.inl ⟨c, rfl⟩
  · have e := o_ff c e
    cases e
    exact Or.inr ⟨by grind, rfl⟩
theorem rr_fresh {a : SMT} {x k : Int32} {r : Int32 × SMT} (e : m_MT_fresh x k a = some r) : r = (MT_values a, frM a x k) := by
  unfold m_MT_fresh o_nm at e
  iterate 8 replace e := (o_gd_some e).2
  cases e
  rfl
theorem RO_v {w : Nat → Int32} {L p : Int32} {tc : STx} {Rd : SRd} {a : SMT} (h : RO w L p tc Rd a) : 0 ≤ p ∧ p ≤ L ∧ L ≤ 8192 ∧ Tx_total tc = MT_values a ∧ 0 ≤ MT_values a ∧ MT_values a ≤ 1000 ∧ 0 ≤ MT_used a ∧ MT_used a ≤ 4000 ∧ 0 ≤ Tx_used tc ∧ Tx_used tc ≤ p ∧ 0 ≤ MT_written a ∧ MT_written a ≤ p := by
  obtain ⟨_, _, ⟨b1, b2, b3⟩, c1, c2, c3, c4, c5, c6, c7, c8, c9, c10⟩ := h
  exact ⟨b1, b2, b3, c1, c2, c3, c5, c6, c7, c8, c9, c10⟩
/-- a node that has no children -/
theorem NODE_leaf {tc : STx} {a : SMT} {x k m : Int32} (h1 : Tx_kinds tc x.toNatClampNeg = k) (h2 : MT_kind a x.toNatClampNeg = k) (hk : 0 ≤ k ∧ k ≤ 4) (h3 : Tx_places tc x.toNatClampNeg = MT_place a x.toNatClampNeg) (h4 : Tx_parents tc x.toNatClampNeg = MT_parent a x.toNatClampNeg) (h5 : Tx_exponents tc x.toNatClampNeg = MT_power a x.toNatClampNeg) (h6 : Tx_sizes tc x.toNatClampNeg = m) (h7 : MT_many a x.toNatClampNeg = m) (h8 : 0 ≤ m) (h9 : k < 3 → m = 0) (h10 : k = 3 → NUM tc a x.toNatClampNeg) (h11 : k = 4 → STN tc a x.toNatClampNeg) : NODE tc a x := by
  refine ⟨⟨h1.trans h2.symm, by rw [h2]; exact hk.1, by rw [h2]; have := hk.2; grind, h3, h4, h5⟩, h6.trans h7.symm, by rw [h7]; exact h8, ?_, ?_, ?_, ?_, ?_⟩
  · rw [h2, h7]; exact h9
  · rw [h2]; exact h10
  · rw [h2]; exact h11
  · rw [h2]; intro e; have := hk.2; rw [e] at this; exact absurd this (by first | decide | (dsimp only <;> decide))
  · rw [h2]; intro e; have := hk.2; rw [e] at this; exact absurd this (by first | decide | (dsimp only <;> decide))
abbrev strT (tc : STx) (c : Nat → Int32) (u hh p x s : Int32) : STx := Tx_mk (upd (Tx_kinds tc) (Tx_total tc).toNatClampNeg 4) (upd (Tx_places tc) (Tx_total tc).toNatClampNeg p) (upd (upd (Tx_sizes tc) (Tx_total tc).toNatClampNeg (0:Int32)) (Tx_total tc).toNatClampNeg (u - upd (Tx_starts tc) (Tx_total tc).toNatClampNeg (Tx_used tc) (Tx_total tc).toNatClampNeg)) (upd (Tx_parents tc) (Tx_total tc).toNatClampNeg x) (upd (Tx_exponents tc) (Tx_total tc).toNatClampNeg (0:Int32)) (upd (Tx_starts tc) (Tx_total tc).toNatClampNeg (Tx_used tc)) (upd (Tx_afters tc) (Tx_total tc).toNatClampNeg ((Tx_total tc) + (1:Int32))) (upd (Tx_slots tc) (Tx_total tc).toNatClampNeg s) (upd (Tx_negatives tc) (Tx_total tc).toNatClampNeg (vp_nar .boolean (0:Int32))) c ((Tx_total tc) + (1:Int32)) u hh
abbrev strM (a : SMT) (d : Nat → Int32) (x p hh : Int32) : SMT := MT_mk (MT_text a) (upd (MT_kind a) (MT_values a).toNatClampNeg 4) (upd (MT_place a) (MT_values a).toNatClampNeg (MT_at a)) (upd (upd (MT_many a) (MT_values a).toNatClampNeg (0:Int32)) (MT_values a).toNatClampNeg (hh - upd (MT_from a) (MT_values a).toNatClampNeg (MT_used a) (MT_values a).toNatClampNeg)) (upd (MT_parent a) (MT_values a).toNatClampNeg x) (upd (MT_power a) (MT_values a).toNatClampNeg (0:Int32)) (upd (MT_first a) (MT_values a).toNatClampNeg (-1:Int32)) (upd (MT_next a) (MT_values a).toNatClampNeg (-1:Int32)) (upd (MT_name a) (MT_values a).toNatClampNeg (-1:Int32)) (upd (MT_from a) (MT_values a).toNatClampNeg (MT_used a)) d (MT_digits a) (MT_minus a) ((MT_values a) + (1:Int32)) (MT_letters a) p (MT_wrong a) hh (MT_written a) (MT_left a)
theorem rr_strTop {tc : STx} {a : SMT} {c d : Nat → Int32} {u hh p p' x s : Int32} (c1 : Tx_total tc = MT_values a) (c2 : 0 ≤ MT_values a) (hv : MT_values a < 1000) (hat : MT_at a = p) (u0 : 0 ≤ Tx_used tc) (u1 : u ≤ 8192) (h0 : 0 ≤ MT_used a) (h1 : hh ≤ 4000) (hS : STR (Tx_cells tc) (MT_characters a) (Tx_used tc) (MT_used a) c d u hh) : TOP tc a x s (strT tc c u hh p x s) (strM a d x p' hh) := by
  obtain ⟨s1, s2, s3, s4, s5, s6⟩ := hS
  have neM : ∀ y : Int32, 0 ≤ y → y < MT_values a → y.toNatClampNeg ≠ (MT_values a).toNatClampNeg := fun y y0 y1 => o_neq y0 c2 (by grind)
  have neT : ∀ y : Int32, 0 ≤ y → y < MT_values a → y.toNatClampNeg ≠ (Tx_total tc).toNatClampNeg := by rw [c1]; exact neM
  have E : ∀ (f : Nat → Int32) (z : Int32), upd f (Tx_total tc).toNatClampNeg z (MT_values a).toNatClampNeg = z := fun f z => rr_upE c1.symm
  refine ⟨by show MT_values a < MT_values a + 1; grind, ⟨s1, by show Tx_total tc ≤ Tx_total tc + 1; rw [c1]; grind, s4, fun y y0 y1 => ?_⟩, ⟨s2, Int32.le_refl _, s5, fun _ _ _ => rfl, fun y y0 y1 => ?_⟩, ?_, E _ _, E _ _, E _ _, o_updE, o_updE⟩
  · exact ⟨o_updN (neT y y0 y1), o_updN (neT y y0 y1), (o_updN (neT y y0 y1)).trans (o_updN (neT y y0 y1)), o_updN (neT y y0 y1), o_updN (neT y y0 y1), o_updN (neT y y0 y1), o_updN (neT y y0 y1), o_updN (neT y y0 y1), o_updN (neT y y0 y1)⟩
  · exact ⟨o_updN (neM y y0 y1), o_updN (neM y y0 y1), (o_updN (neM y y0 y1)).trans (o_updN (neM y y0 y1)), o_updN (neM y y0 y1), o_updN (neM y y0 y1), o_updN (neM y y0 y1), o_updN (neM y y0 y1), o_updN (neM y y0 y1), o_updN (neM y y0 y1), rfl⟩
  · intro y y0 y1
    replace y1 : y < Tx_total tc + 1 := y1
    rw [c1] at y1
    have ey : y = MT_values a := by grind
    subst ey
    obtain ⟨TC, eT⟩ : ∃ t : STx, t = strT tc c u hh p x s := ⟨_, rfl⟩
    obtain ⟨AM, eA⟩ : ∃ t : SMT, t = strM a d x p' hh := ⟨_, rfl⟩
    rw [← eT, ← eA]
    have z1 : Tx_sizes TC (MT_values a).toNatClampNeg = u - Tx_used tc := by
      rw [eT]
      show upd (upd (Tx_sizes tc) _ 0) (Tx_total tc).toNatClampNeg (u - upd (Tx_starts tc) (Tx_total tc).toNatClampNeg (Tx_used tc) (Tx_total tc).toNatClampNeg) (MT_values a).toNatClampNeg = _
      rw [E, o_updE]
    have z2 : MT_many AM (MT_values a).toNatClampNeg = u - Tx_used tc := by
      rw [eA]
      show upd (upd (MT_many a) _ 0) (MT_values a).toNatClampNeg (hh - upd (MT_from a) (MT_values a).toNatClampNeg (MT_used a) (MT_values a).toNatClampNeg) (MT_values a).toNatClampNeg = _
      rw [o_updE, o_updE]
      exact s3.symm
    have z3 : Tx_starts TC (MT_values a).toNatClampNeg = Tx_used tc := by rw [eT]; exact E _ _
    have z4 : MT_from AM (MT_values a).toNatClampNeg = MT_used a := by rw [eA]; exact o_updE
    have z5 : Tx_used TC = u := by rw [eT]
    have z6 : MT_used AM = hh := by rw [eA]
    have z7 : Tx_cells TC = c := by rw [eT]
    have z8 : MT_characters AM = d := by rw [eA]
    refine NODE_leaf (k := 4) (m := u - Tx_used tc) (by rw [eT]; exact E _ _) (by rw [eA]; exact o_updE) ⟨by first | decide | (dsimp only <;> decide), by first | decide | (dsimp only <;> decide)⟩ ?_ ?_ ?_ z1 z2 (by grind) (fun e => absurd e (by first | decide | (dsimp only <;> decide))) (fun e => absurd e (by first | decide | (dsimp only <;> decide))) (fun _ => ?_)
    · rw [eT, eA]; exact (E _ _).trans (hat.symm.trans o_updE.symm)
    · rw [eT, eA]; exact (E _ _).trans o_updE.symm
    · rw [eT, eA]; exact (E _ _).trans o_updE.symm
    · unfold STN
      rw [z1, z3, z4, z5, z6, z7, z8]
      exact ⟨⟨u0, s1, Int32.le_refl _⟩, ⟨h0, s2, by rw [s3]; exact Int32.le_refl _⟩, s6⟩
/-- a string, from its quote on -/
theorem rr_string {n m : Nat} {w : Nat → Int32} {L p x s : Int32} {tc : STx} {Rd : SRd} {a : SMT} (h : RO w L p tc Rd a) (hp : p < L) (hv : MT_values a < 1000) : o_p2 (m_Rd_readString n (Tx_total tc) (bgT tc 4 p x s) Rd) (m_MT_string m x a) (fun r r' => RV w L p tc a x s r r' ∧ (r'.1 = 1 → MT_kind r'.2 (MT_values a).toNatClampNeg = 4 ∧ MT_values r'.2 = MT_values a + 1 ∧ MT_place r'.2 (MT_values a).toNatClampNeg = p)) := by
  obtain ⟨b1, b2, b3, c1, c2, c3, c5, c6, c7, c8, c9, c10⟩ := RO_v h
  obtain ⟨hR, hM, hb, hC⟩ := h
  have hcc : Tx_characters tc = MT_used a := hC.2.2.2.1
  unfold m_Rd_readString m_MT_string
  rw [hR.2.2.1]
  refine q2R (fun q1 e1 => ?_)
  have e1 := rr_fresh e1
  subst e1
  refine q2GR (fun _ => ?_)
  obtain ⟨aa, eaa⟩ : ∃ aa : SMT, aa = MT_mk (MT_text a) (upd (MT_kind a) (MT_values a).toNatClampNeg 4) (upd (MT_place a) (MT_values a).toNatClampNeg (MT_at a)) (upd (MT_many a) (MT_values a).toNatClampNeg (0:Int32)) (upd (MT_parent a) (MT_values a).toNatClampNeg x) (upd (MT_power a) (MT_values a).toNatClampNeg (0:Int32)) (upd (MT_first a) (MT_values a).toNatClampNeg (-1:Int32)) (upd (MT_next a) (MT_values a).toNatClampNeg (-1:Int32)) (upd (MT_name a) (MT_values a).toNatClampNeg (-1:Int32)) (upd (MT_from a) (MT_values a).toNatClampNeg (MT_used a)) (MT_characters a) (MT_digits a) (MT_minus a) ((MT_values a) + (1:Int32)) (MT_letters a) (MT_at a + 1) (MT_wrong a) (MT_used a) (MT_written a) (MT_left a) := ⟨_, rfl⟩
  have hMa : MtOK w L (p + 1) aa := by
    rw [eaa]
    exact ⟨hM.1, by show MT_at a + 1 = p + 1; rw [hM.2.1], hM.2.2.1, hM.2.2.2⟩
  have eu : MT_used aa = MT_used a := by rw [eaa]
  have ec : MT_characters aa = MT_characters a := by rw [eaa]
  refine q2B (Q := SE L (p + 1) (bgT tc 4 p x s) (ps Rd (p + 1)) aa) ?_ ?_
  · show o_p2 (o_lp n (m_Rd_readString_b12 n (Tx_total tc)) (0, 0, bgT tc 4 p x s, ps Rd (p + 1))) (o_lp m (m_MT_string_b27 m (MT_values a)) (MT_mk _ _ _ _ _ _ _ _ _ _ _ _ _ _ _ _ _ _ _ _)) _
    rw [← eaa]
    exact rr_strL (RdOK_ps hR) hMa (BP_1 hb hp) c7 (by show Tx_used tc ≤ p + 1; grind) (by rw [eu]; exact hcc) (by rw [eu]; exact c5) (by rw [eu]; exact c6)
  · rintro ⟨k, i, x4, tc', R'⟩ ⟨k', a'⟩ hS
    rcases hS with ⟨e1, e2, c, d, u, hh, p', d1, d2, d3, d4, d5, d6, d7, d8⟩ | ⟨e1, e2, e3, e4, e5⟩ | ⟨e1, e2, e3, e4⟩ | ⟨e1, e2, e3, e4, e5⟩
    · replace e1 : k = 1 := e1
      replace e2 : k' = 2 := e2
      replace d7 : (tc', R') = (cl (bgT tc 4 p x s) c u hh, ps (ps Rd (p + 1)) p') := d7
      replace d8 : a' = chM aa d p' hh := d8
      subst e1 e2 d8
      cases d7
      rw [eu, ec] at d6
      replace d6 : STR (Tx_cells tc) (MT_characters a) (Tx_used tc) (MT_used a) c d u hh := d6
      subst eaa
      refine q2tL rfl (q2fR (by show ¬ 2 = 1; first | decide | (dsimp only <;> decide)) (q2tR rfl ?_))
      unfold m_Tx_endString
      have v0 : ¬ Tx_total tc < 0 := by rw [c1]; grind
      have v1 : ¬ Tx_total tc + 1 ≤ Tx_total tc := by rw [c1]; grind
      refine q2L (fun q6 e6 => ?_)
      have e6 := o_ff v0 e6
      have e6 := o_ff v1 e6
      replace e6 := (o_gd_some (o_gd_some e6).2).2
      cases e6
      refine q2GR (fun _ => q2GR (fun _ => q2S ⟨Or.inr ⟨rfl, rfl, p' + 1, ⟨⟨hR.1, hR.2.1, rfl, hR.2.2.2⟩, ⟨hM.1, rfl, hM.2.2.1, hM.2.2.2⟩, BP_1 d1 d2, ?_⟩, ?_⟩, fun _ => ⟨o_updE, rfl, o_updE.trans hM.2.1⟩⟩))
      · obtain ⟨t1, t2, t3⟩ := d1
        obtain ⟨s1, s2, s3, _⟩ := d6
        refine ⟨by show Tx_total tc + 1 = MT_values a + 1; rw [c1], by show 0 ≤ MT_values a + 1; grind, by show MT_values a + 1 ≤ 1000; grind, rfl, by show 0 ≤ hh; grind, d5, by show 0 ≤ u; grind, by show u ≤ p' + 1; grind, c9, by show MT_written a ≤ p' + 1; grind⟩
      · obtain ⟨t1, t2, t3⟩ := d1
        exact rr_strTop c1 c2 hv hM.2.1 c7 (by grind) c5 d5 d6
    · replace e1 : k = 2 := e1
      replace e2 : k' = 1 := e2
      subst e1 e2
      refine q2fL (by show ¬ 2 = 1; first | decide | (dsimp only <;> decide)) (q2tL rfl (q2tR rfl (q2R (fun q7 e7 => q2GR (fun _ => q2S ?_)))))
      obtain ⟨g1, g2⟩ := rr_bad e4 q7 e7
      refine ⟨Or.inl ?_, fun z => absurd (g1.symm.trans z) (by first | decide | (dsimp only <;> decide))⟩
      exact ⟨rfl, g1, by show Rd_wrongPlace R' = _; rw [g2]; exact e3, by rw [g2]; exact e5⟩
    · replace e1 : k = 2 := e1
      replace e2 : k' ≠ 1 := e2
      replace e3 : k' ≠ 2 := e3
      subst e1
      refine q2fL (by show ¬ 2 = 1; first | decide | (dsimp only <;> decide)) (q2tL rfl (q2fR e2 (q2fR e3 (q2IR (fun _ => q2S ⟨Or.inl ⟨rfl, rfl, e4⟩, fun z => absurd z (by first | decide | (dsimp only <;> decide))⟩) (fun _ => q2IR (fun _ => q2S ⟨Or.inl ⟨rfl, rfl, e4⟩, fun z => absurd z (by first | decide | (dsimp only <;> decide))⟩) (fun _ => q2S ⟨Or.inl ⟨rfl, rfl, e4⟩, fun z => absurd z (by first | decide | (dsimp only <;> decide))⟩))))))
    · replace e1 : k = 3 := e1
      replace e2 : k' ≠ 1 := e2
      replace e3 : k' ≠ 2 := e3
      subst e1
      have hf : ∀ q8, m_Rd_refuse x4 R' = some q8 → q8.1 = 0 ∧ FL q8.2 a' := by
        intro q8 e
        unfold m_Rd_refuse at e
        cases e
        exact ⟨rfl, e4, e5⟩
      refine q2fL (by show ¬ 3 = 1; first | decide | (dsimp only <;> decide)) (q2fL (by show ¬ 3 = 2; first | decide | (dsimp only <;> decide)) (q2tL rfl (q2L (fun q8 e8 => q2GL (fun _ => q2fR e2 (q2fR e3 ?_))))))
      obtain ⟨g1, g2⟩ := hf q8 e8
      exact q2IR (fun _ => q2S ⟨Or.inl ⟨g1, rfl, g2⟩, fun z => absurd z (by first | decide | (dsimp only <;> decide))⟩) (fun _ => q2IR (fun _ => q2S ⟨Or.inl ⟨g1, rfl, g2⟩, fun z => absurd z (by first | decide | (dsimp only <;> decide))⟩) (fun _ => q2S ⟨Or.inl ⟨g1, rfl, g2⟩, fun z => absurd z (by first | decide | (dsimp only <;> decide))⟩))
