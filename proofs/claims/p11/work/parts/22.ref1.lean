/-! The reference's Text: what holds of its tree -/
def CH (next par : Nat → Int32) (vals x : Int32) : Nat → Int32 → Prop
  | 0, m => m = -1
  | k + 1, m => 0 ≤ m ∧ m < vals ∧ par m.toNatClampNeg = x ∧ CH next par vals x k (next m.toNatClampNeg)
theorem CH_mono {next par next' par' : Nat → Int32} {v v' x : Int32} (h1 : ∀ y : Int32, 0 ≤ y → y < v → next' y.toNatClampNeg = next y.toNatClampNeg ∧ par' y.toNatClampNeg = par y.toNatClampNeg) (h2 : v ≤ v') : ∀ (k : Nat) (m : Int32), CH next par v x k m → CH next' par' v' x k m := by
  intro k
  induction k with
  | zero => intro m h; exact h
  | succ k ih =>
    intro m h
    obtain ⟨a, b, c, d⟩ := h
    obtain ⟨e1, e2⟩ := h1 m a b
    refine ⟨a, Int32.lt_of_lt_of_le b h2, by rw [e2]; exact c, ?_⟩
    rw [e1]
    exact ih _ d
def N_MT (s : SMT) (x : Int32) : Prop :=
  (0 ≤ MT_kind s x.toNatClampNeg ∧ MT_kind s x.toNatClampNeg ≤ 6) ∧
  (MT_first s x.toNatClampNeg = -1 ∨ (x < MT_first s x.toNatClampNeg ∧ MT_first s x.toNatClampNeg < MT_values s)) ∧
  (MT_next s x.toNatClampNeg = -1 ∨ (x < MT_next s x.toNatClampNeg ∧ MT_next s x.toNatClampNeg < MT_values s)) ∧
  (MT_name s x.toNatClampNeg = -1 ∨ (0 ≤ MT_name s x.toNatClampNeg ∧ MT_name s x.toNatClampNeg < x ∧ MT_kind s (MT_name s x.toNatClampNeg).toNatClampNeg = 4)) ∧
  (MT_kind s x.toNatClampNeg = 4 → 0 ≤ MT_from s x.toNatClampNeg ∧ 0 ≤ MT_many s x.toNatClampNeg ∧ MT_from s x.toNatClampNeg ≤ MT_used s ∧ MT_many s x.toNatClampNeg ≤ MT_used s - MT_from s x.toNatClampNeg) ∧
  (MT_kind s x.toNatClampNeg = 3 → 0 ≤ MT_from s x.toNatClampNeg ∧ 0 ≤ MT_many s x.toNatClampNeg ∧ MT_many s x.toNatClampNeg ≤ 60 ∧ MT_from s x.toNatClampNeg ≤ MT_written s ∧ MT_many s x.toNatClampNeg ≤ MT_written s - MT_from s x.toNatClampNeg) ∧
  (-3000000 ≤ MT_power s x.toNatClampNeg ∧ MT_power s x.toNatClampNeg ≤ 3000000) ∧
  (0 < x → 0 ≤ MT_parent s x.toNatClampNeg ∧ MT_parent s x.toNatClampNeg < x) ∧
  (MT_kind s x.toNatClampNeg = 6 → MT_first s x.toNatClampNeg ≠ -1 → MT_name s (MT_first s x.toNatClampNeg).toNatClampNeg ≠ -1 ∧ x + 2 ≤ MT_first s x.toNatClampNeg) ∧
  (MT_name s x.toNatClampNeg ≠ -1 → MT_next s x.toNatClampNeg ≠ -1 → MT_name s (MT_next s x.toNatClampNeg).toNatClampNeg ≠ -1 ∧ x + 2 ≤ MT_next s x.toNatClampNeg) ∧
  (5 ≤ MT_kind s x.toNatClampNeg → 0 ≤ MT_many s x.toNatClampNeg ∧ MT_many s x.toNatClampNeg < MT_values s ∧ CH (MT_next s) (MT_parent s) (MT_values s) x (MT_many s x.toNatClampNeg).toInt.toNat (MT_first s x.toNatClampNeg))
def T_MT (s : SMT) : Prop := ∀ x : Int32, 0 ≤ x → x < MT_values s → N_MT s x
def I_MT (s : SMT) : Prop := 0 ≤ MT_values s ∧ MT_values s ≤ 1000 ∧ 0 ≤ MT_letters s ∧ MT_letters s ≤ 8192 ∧ 0 ≤ MT_at s ∧ MT_at s ≤ 8300 ∧ 0 ≤ MT_used s ∧ MT_used s ≤ 4000 ∧ 0 ≤ MT_written s ∧ MT_written s ≤ 8192 ∧ MT_written s ≤ MT_at s
/-- one state comes behind the other: what was there is as it was -/
def EX (a b : SMT) : Prop := MT_values a ≤ MT_values b ∧ MT_used a ≤ MT_used b ∧ MT_written a ≤ MT_written b ∧ MT_letters b = MT_letters a ∧
  ∀ x : Int32, 0 ≤ x → x < MT_values a → MT_kind b x.toNatClampNeg = MT_kind a x.toNatClampNeg ∧ MT_many b x.toNatClampNeg = MT_many a x.toNatClampNeg ∧ MT_first b x.toNatClampNeg = MT_first a x.toNatClampNeg ∧ MT_next b x.toNatClampNeg = MT_next a x.toNatClampNeg ∧ MT_name b x.toNatClampNeg = MT_name a x.toNatClampNeg ∧ MT_from b x.toNatClampNeg = MT_from a x.toNatClampNeg ∧ MT_parent b x.toNatClampNeg = MT_parent a x.toNatClampNeg
theorem EX_rfl {a : SMT} : EX a a := ⟨Int32.le_refl _, Int32.le_refl _, Int32.le_refl _, rfl, fun _ _ _ => ⟨rfl, rfl, rfl, rfl, rfl, rfl, rfl⟩⟩
theorem EX_trans {a b c : SMT} (h1 : EX a b) (h2 : EX b c) : EX a c := by
  obtain ⟨a1, a2, a3, a4, a5⟩ := h1
  obtain ⟨b1, b2, b3, b4, b5⟩ := h2
  refine ⟨Int32.le_trans a1 b1, Int32.le_trans a2 b2, Int32.le_trans a3 b3, b4.trans a4, fun x h0 h => ?_⟩
  obtain ⟨c1, c2, c3, c4, c5, c6, c7⟩ := a5 x h0 h
  obtain ⟨d1, d2, d3, d4, d5, d6, d7⟩ := b5 x h0 (Int32.lt_of_lt_of_le h a1)
  exact ⟨d1.trans c1, d2.trans c2, d3.trans c3, d4.trans c4, d5.trans c5, d6.trans c6, d7.trans c7⟩
/-- fields of the tree alike, the counts no less -/
def SA (a b : SMT) : Prop := MT_kind b = MT_kind a ∧ MT_many b = MT_many a ∧ MT_first b = MT_first a ∧ MT_next b = MT_next a ∧ MT_name b = MT_name a ∧ MT_from b = MT_from a ∧ MT_parent b = MT_parent a ∧ MT_power b = MT_power a ∧ MT_values b = MT_values a ∧ MT_letters b = MT_letters a
theorem SA_EX {a b : SMT} (h : SA a b) (h1 : MT_used a ≤ MT_used b) (h2 : MT_written a ≤ MT_written b) : EX a b := by
  obtain ⟨e1, e2, e3, e4, e5, e6, e7, -, e8, e9⟩ := h
  refine ⟨by rw [e8]; exact Int32.le_refl _, h1, h2, e9, fun x _ _ => ?_⟩
  rw [e1, e2, e3, e4, e5, e6, e7]
  exact ⟨rfl, rfl, rfl, rfl, rfl, rfl, rfl⟩
theorem SA_T {a b : SMT} (h : SA a b) (hT : T_MT a) (i : 0 ≤ MT_used a ∧ 0 ≤ MT_written a) (j : MT_used b ≤ 4000 ∧ MT_written b ≤ 8192) (h1 : MT_used a ≤ MT_used b) (h2 : MT_written a ≤ MT_written b) : T_MT b := by
  obtain ⟨e1, e2, e3, e4, e5, e6, e7, e8, e9, e10⟩ := h
  intro x h0 hx
  rw [e9] at hx
  have n := hT x h0 hx
  unfold N_MT at n ⊢
  rw [e1, e2, e3, e4, e5, e6, e7, e8, e9]
  obtain ⟨n1, n2, n3, n4, n5, n6, n7, n8, n9, n10, n11⟩ := n
  refine ⟨n1, n2, n3, n4, fun k => ?_, fun k => ?_, n7, n8, n9, n10, n11⟩
  · obtain ⟨k1, k2, k3, k4⟩ := n5 k
    refine ⟨k1, k2, Int32.le_trans k3 h1, ?_⟩
    clear n11 n9 n10 n8 n7 n6 n5 n4 n3 n2 n1 e1 e2 e3 e4 e5 e6 e7 e8 e9 e10 hT
    grind
  · obtain ⟨k1, k2, k3, k4, k5⟩ := n6 k
    refine ⟨k1, k2, k3, Int32.le_trans k4 h2, ?_⟩
    clear n11 n9 n10 n8 n7 n6 n5 n4 n3 n2 n1 e1 e2 e3 e4 e5 e6 e7 e8 e9 e10 hT
    grind
theorem sc_MT {s : SMT} (h : I_MT s) : 0 ≤ MT_values s ∧ MT_values s ≤ 1000 ∧ 0 ≤ MT_letters s ∧ MT_letters s ≤ 8192 ∧ 0 ≤ MT_at s ∧ MT_at s ≤ 8300 ∧ 0 ≤ MT_used s ∧ MT_used s ≤ 4000 ∧ 0 ≤ MT_written s ∧ MT_written s ≤ 8192 ∧ MT_written s ≤ MT_at s := h
theorem sc_EX {a b : SMT} (h : EX a b) : MT_values a ≤ MT_values b ∧ MT_used a ≤ MT_used b ∧ MT_written a ≤ MT_written b ∧ MT_letters b = MT_letters a := ⟨h.1, h.2.1, h.2.2.1, h.2.2.2.1⟩
/-- a tree behind a tree: all old values as they were, and the last one by itself -/
theorem T_grow {a b : SMT} (hI : I_MT a) (hT : T_MT a) (hE : EX a b) (hv : MT_values b = MT_values a + 1) (hvv : MT_values a < 1000) (hu : MT_used b ≤ 4000) (hw : MT_written b ≤ 8192) (hpw : ∀ x : Int32, 0 ≤ x → x < MT_values a → MT_power b x.toNatClampNeg = MT_power a x.toNatClampNeg) (hN : N_MT b (MT_values a)) : T_MT b := by
  have i := sc_MT hI
  have se := sc_EX hE
  intro x h0 hx
  by_cases hx2 : x < MT_values a
  · have n := hT x h0 hx2
    obtain ⟨c1, c2, c3, c4, c5, c6, c7⟩ := hE.2.2.2.2 x h0 hx2
    have c8 := hpw x h0 hx2
    unfold N_MT at n ⊢
    obtain ⟨n1, n2, n3, n4, n5, n6, n7, n8, n9, n10, n11⟩ := n
    rw [c1, c2, c3, c4, c5, c6, c7, c8]
    refine ⟨n1, ?_, ?_, ?_, ?_, ?_, n7, n8, ?_, ?_, ?_⟩
    · rcases n2 with h | h
      · exact Or.inl h
      · exact Or.inr ⟨h.1, Int32.lt_of_lt_of_le h.2 se.1⟩
    · rcases n3 with h | h
      · exact Or.inl h
      · exact Or.inr ⟨h.1, Int32.lt_of_lt_of_le h.2 se.1⟩
    · rcases n4 with h | h
      · exact Or.inl h
      · right; refine ⟨h.1, h.2.1, ?_⟩
        rw [(hE.2.2.2.2 _ h.1 (Int32.lt_trans h.2.1 hx2)).1]; exact h.2.2
    · intro k
      obtain ⟨k1, k2, k3, k4⟩ := n5 k
      refine ⟨k1, k2, Int32.le_trans k3 se.2.1, ?_⟩
      have s1 := se.2.1
      clear n11 n9 n10 n8 n7 n6 n5 n4 n3 n2 n1 hT hE hN hpw
      grind
    · intro k
      obtain ⟨k1, k2, k3, k4, k5⟩ := n6 k
      refine ⟨k1, k2, k3, Int32.le_trans k4 se.2.2.1, ?_⟩
      have s1 := se.2.2.1
      clear n11 n9 n10 n8 n7 n6 n5 n4 n3 n2 n1 hT hE hN hpw
      grind
    · intro k6 kf
      rcases n2 with h | h
      · exact absurd h kf
      · have t := n9 k6 kf
        refine ⟨?_, t.2⟩
        rw [(hE.2.2.2.2 _ (Int32.le_of_lt (Int32.lt_of_le_of_lt h0 h.1)) h.2).2.2.2.2.1]; exact t.1
    · intro k6 kf
      rcases n3 with h | h
      · exact absurd h kf
      · have t := n10 k6 kf
        refine ⟨?_, t.2⟩
        rw [(hE.2.2.2.2 _ (Int32.le_of_lt (Int32.lt_of_le_of_lt h0 h.1)) h.2).2.2.2.2.1]; exact t.1
    · intro k5
      obtain ⟨t1, t2, t3⟩ := n11 k5
      exact ⟨t1, Int32.lt_of_lt_of_le t2 se.1, CH_mono (fun y y0 yv => ⟨(hE.2.2.2.2 y y0 yv).2.2.2.1, (hE.2.2.2.2 y y0 yv).2.2.2.2.2.2⟩) se.1 _ _ t3⟩
  · have ex : x = MT_values a := by
      rw [hv] at hx
      clear hT hE hN hpw se
      grind
    rw [ex]; exact hN
theorem o_nev {a x : Int32} (h0 : 0 ≤ x) (h1 : 0 ≤ a) (h : x < a) : x.toNatClampNeg ≠ a.toNatClampNeg := o_neq h0 h1 (by intro e; subst e; grind)
/-- what a fresh value is -/
def FR (a b : SMT) (p k : Int32) : Prop := MT_kind b = upd (MT_kind a) (MT_values a).toNatClampNeg k ∧ MT_many b = upd (MT_many a) (MT_values a).toNatClampNeg 0 ∧ MT_parent b = upd (MT_parent a) (MT_values a).toNatClampNeg p ∧ MT_power b = upd (MT_power a) (MT_values a).toNatClampNeg 0 ∧ MT_first b = upd (MT_first a) (MT_values a).toNatClampNeg (-1) ∧ MT_next b = upd (MT_next a) (MT_values a).toNatClampNeg (-1) ∧ MT_name b = upd (MT_name a) (MT_values a).toNatClampNeg (-1) ∧ MT_from b = MT_from a ∧ MT_values b = MT_values a + 1 ∧ MT_used b = MT_used a ∧ MT_written b = MT_written a ∧ MT_letters b = MT_letters a ∧ MT_at b = MT_at a
theorem s_MT_fresh {x1 x2 : Int32} {a0 : SMT} (h_a0 : I_MT a0) (p0 : MT_values a0 < 1000) : o_ok (m_MT_fresh x1 x2 a0) (fun r => r.1 = MT_values a0 ∧ FR a0 r.2 x1 x2 ∧ I_MT r.2) := by
  have i := sc_MT h_a0
  unfold m_MT_fresh
  refine o_okN (fun x ex => ?_)
  subst ex
  have g : o_in (MT_values a0) 1000 = true := o_inM (m := 1000) rfl i.1 p0
  refine o_okG g (o_okG g (o_okG g (o_okG g (o_okG g (o_okG g (o_okG g (o_okG g (o_okS ⟨rfl, ⟨rfl, rfl, rfl, rfl, rfl, rfl, rfl, rfl, rfl, rfl, rfl, rfl, rfl⟩, ?_, ?_, i.2.2.1, i.2.2.2.1, i.2.2.2.2.1, i.2.2.2.2.2.1, i.2.2.2.2.2.2.1, i.2.2.2.2.2.2.2.1, i.2.2.2.2.2.2.2.2.1, i.2.2.2.2.2.2.2.2.2.1, i.2.2.2.2.2.2.2.2.2.2⟩))))))))
  · show 0 ≤ MT_values a0 + 1
    grind
  · show MT_values a0 + 1 ≤ 1000
    grind
theorem FR_EX {a b : SMT} {p k : Int32} (hI : I_MT a) (hv : MT_values a < 1000) (h : FR a b p k) : EX a b := by
  obtain ⟨e1, e2, e3, e4, e5, e6, e7, e8, e9, e10, e11, e12, e13⟩ := h
  have i := sc_MT hI
  refine ⟨by rw [e9]; grind, by rw [e10]; exact Int32.le_refl _, by rw [e11]; exact Int32.le_refl _, e12, fun x h0 hx => ?_⟩
  have nn := o_nev h0 i.1 hx
  rw [e1, e2, e3, e5, e6, e7, e8, o_updN nn, o_updN nn, o_updN nn, o_updN nn, o_updN nn, o_updN nn]
  exact ⟨rfl, rfl, rfl, rfl, rfl, rfl, rfl⟩
/-- a state that has the fields of a fresh one, but for where its own characters or digits begin -/
theorem FR_T {a b c : SMT} {p k : Int32} (hI : I_MT a) (hT : T_MT a) (hv : MT_values a < 1000) (h : FR a b p k) (hk : 0 ≤ k ∧ k ≤ 6) (hp : 0 < MT_values a → 0 ≤ p ∧ p < MT_values a)
    (f1 : MT_kind c = MT_kind b) (f2 : MT_many c = MT_many b) (f3 : MT_parent c = MT_parent b) (f4 : MT_power c = MT_power b) (f5 : MT_first c = MT_first b) (f6 : MT_next c = MT_next b) (f7 : MT_name c = MT_name b) (f9 : MT_values c = MT_values b) (f10 : MT_letters c = MT_letters b)
    (g1 : ∀ x : Int32, 0 ≤ x → x < MT_values a → MT_from c x.toNatClampNeg = MT_from b x.toNatClampNeg) (hu : MT_used a ≤ MT_used c ∧ MT_used c ≤ 4000) (hw : MT_written a ≤ MT_written c ∧ MT_written c ≤ 8192)
    (g4 : k = 4 → 0 ≤ MT_from c (MT_values a).toNatClampNeg ∧ MT_from c (MT_values a).toNatClampNeg ≤ MT_used c) (g3 : k = 3 → 0 ≤ MT_from c (MT_values a).toNatClampNeg ∧ MT_from c (MT_values a).toNatClampNeg ≤ MT_written c) : EX a c ∧ T_MT c := by
  have hE := FR_EX hI hv h
  have i := sc_MT hI
  have e := h
  obtain ⟨e1, e2, e3, e4, e5, e6, e7, e8, e9, e10, e11, e12, e13⟩ := e
  have hE2 : EX a c := by
    refine ⟨by rw [f9]; exact hE.1, hu.1, hw.1, by rw [f10]; exact hE.2.2.2.1, fun x h0 hx => ?_⟩
    obtain ⟨c1, c2, c3, c4, c5, c6, c7⟩ := hE.2.2.2.2 x h0 hx
    rw [f1, f2, f3, f5, f6, f7, g1 x h0 hx]
    exact ⟨c1, c2, c3, c4, c5, c6, c7⟩
  refine ⟨hE2, T_grow hI hT hE2 (by rw [f9, e9]) hv hu.2 hw.2 (fun x h0 hx => ?_) ?_⟩
  · rw [f4, e4, o_updN (o_nev h0 i.1 hx)]
  · unfold N_MT
    rw [f1, f2, f3, f4, f5, f6, f7, e1, e2, e3, e4, e5, e6, e7, o_updE, o_updE, o_updE, o_updE, o_updE, o_updE, o_updE]
    refine ⟨hk, Or.inl rfl, Or.inl rfl, Or.inl rfl, fun q => ?_, fun q => ?_, by decide, hp, fun _ z => absurd rfl z, fun z => absurd rfl z, fun _ => ⟨by decide, ?_, rfl⟩⟩
    · obtain ⟨k1, k2⟩ := g4 q
      refine ⟨k1, by decide, k2, ?_⟩
      have := hu.2
      clear hE hE2 hT h
      grind
    · obtain ⟨k1, k2⟩ := g3 q
      refine ⟨k1, by decide, by decide, k2, ?_⟩
      have := hw.2
      clear hE hE2 hT h
      grind
    · rw [f9, e9]
      have := i.1
      clear hE hE2 hT h
      grind
/-- the end of a number -/
theorem T_num {aa a b : SMT} {v n k p : Int32} (hI : I_MT a) (hT : T_MT a) (hE : EX aa a) (hv : MT_values aa = v) (hv2 : MT_values a = v + 1) (h0 : 0 ≤ v) (h1 : v < 1000) (hk3 : MT_kind a v.toNatClampNeg = 3) (hk : 0 ≤ k ∧ k ≤ n ∧ n ≤ 60) (hw : MT_written a + n ≤ 8192) (hp : -3000000 ≤ p ∧ p ≤ 3000000)
    (e1 : MT_kind b = MT_kind a) (e2 : MT_many b = upd (MT_many a) v.toNatClampNeg (n - k)) (e3 : MT_parent b = MT_parent a) (e4 : MT_power b = upd (MT_power a) v.toNatClampNeg p) (e5 : MT_first b = MT_first a) (e6 : MT_next b = MT_next a) (e7 : MT_name b = MT_name a) (e8 : MT_from b = upd (MT_from a) v.toNatClampNeg (MT_written a + k)) (e9 : MT_values b = MT_values a) (e10 : MT_used b = MT_used a) (e11 : MT_written b = MT_written a + n) (e12 : MT_letters b = MT_letters a) : EX aa b ∧ T_MT b := by
  have i := sc_MT hI
  have ww : MT_written a ≤ MT_written a + n := by have := i.2.2.2.2.2.2.2.2.1; have := i.2.2.2.2.2.2.2.2.2.1; clear hT hE; grind
  have sE := sc_EX hE
  constructor
  · refine ⟨by rw [e9]; exact sE.1, by rw [e10]; exact sE.2.1, by rw [e11]; exact Int32.le_trans sE.2.2.1 ww, by rw [e12]; exact sE.2.2.2, fun x g0 hx => ?_⟩
    rw [hv] at hx
    have nn := o_nev g0 h0 hx
    have hx' : x < MT_values aa := by rw [hv]; exact hx
    obtain ⟨c1, c2, c3, c4, c5, c6, c7⟩ := hE.2.2.2.2 x g0 hx'
    rw [e1, e2, e3, e5, e6, e7, e8, o_updN nn, o_updN nn]
    exact ⟨c1, c2, c3, c4, c5, c6, c7⟩
  · intro x g0 hx
    rw [e9] at hx
    have n0 := hT x g0 hx
    unfold N_MT at n0 ⊢
    rw [e1, e2, e3, e4, e5, e6, e7, e8, e9, e10, e11]
    obtain ⟨n1, n2, n3, n4, n5, n6, n7, n8, n9, n10, n11⟩ := n0
    by_cases hxv : x = v
    · subst hxv
      rw [o_updE, o_updE, o_updE]
      refine ⟨n1, n2, n3, n4, fun q => ?_, fun _ => ?_, hp, n8, n9, n10, fun q => ?_⟩
      · rw [hk3] at q
        exact absurd q (by decide)
      · have w0 := i.2.2.2.2.2.2.2.2.1
        have w1 := i.2.2.2.2.2.2.2.2.2.1
        clear n11 n1 n2 n3 n4 n5 n6 n7 n8 n9 n10 hT hE sE
        refine ⟨?_, ?_, ?_, ?_, ?_⟩ <;> grind
      · rw [hk3] at q
        exact absurd q (by decide)
    · have nn : x.toNatClampNeg ≠ v.toNatClampNeg := o_neq g0 h0 hxv
      rw [o_updN nn, o_updN nn, o_updN nn]
      refine ⟨n1, n2, n3, n4, n5, fun q => ?_, n7, n8, n9, n10, n11⟩
      obtain ⟨k1, k2, k3, k4, k5⟩ := n6 q
      refine ⟨k1, k2, k3, Int32.le_trans k4 ww, ?_⟩
      have w0 := i.2.2.2.2.2.2.2.2.1
      have w1 := i.2.2.2.2.2.2.2.2.2.1
      clear n11 n1 n2 n3 n4 n5 n6 n7 n8 n9 n10 hT hE sE
      grind
theorem EX_f {a b : SMT} {x : Int32} (h : EX a b) (h0 : 0 ≤ x) (h1 : x < MT_values a) : MT_from b x.toNatClampNeg = MT_from a x.toNatClampNeg := (h.2.2.2.2 x h0 h1).2.2.2.2.2.1
theorem EX_k {a b : SMT} {x : Int32} (h : EX a b) (h0 : 0 ≤ x) (h1 : x < MT_values a) : MT_kind b x.toNatClampNeg = MT_kind a x.toNatClampNeg := (h.2.2.2.2 x h0 h1).1
theorem EX_m {a b : SMT} {x : Int32} (h : EX a b) (h0 : 0 ≤ x) (h1 : x < MT_values a) : MT_many b x.toNatClampNeg = MT_many a x.toNatClampNeg := (h.2.2.2.2 x h0 h1).2.1
theorem EX_n {a b : SMT} {x : Int32} (h : EX a b) (h0 : 0 ≤ x) (h1 : x < MT_values a) : MT_name b x.toNatClampNeg = MT_name a x.toNatClampNeg := (h.2.2.2.2 x h0 h1).2.2.2.2.1
theorem EX_p {a b : SMT} {x : Int32} (h : EX a b) (h0 : 0 ≤ x) (h1 : x < MT_values a) : MT_parent b x.toNatClampNeg = MT_parent a x.toNatClampNeg := (h.2.2.2.2 x h0 h1).2.2.2.2.2.2
/-- the end of a string -/
theorem T_str {aa a b : SMT} {v q : Int32} (hI : I_MT a) (hT : T_MT a) (hE : EX aa a) (hv : MT_values aa = v) (hv2 : MT_values a = v + 1) (h0 : 0 ≤ v) (h1 : v < 1000) (hk4 : MT_kind a v.toNatClampNeg = 4) (hq : 0 ≤ q ∧ q ≤ MT_used a - MT_from a v.toNatClampNeg)
    (e1 : MT_kind b = MT_kind a) (e2 : MT_many b = upd (MT_many a) v.toNatClampNeg q) (e3 : MT_parent b = MT_parent a) (e4 : MT_power b = MT_power a) (e5 : MT_first b = MT_first a) (e6 : MT_next b = MT_next a) (e7 : MT_name b = MT_name a) (e8 : MT_from b = MT_from a) (e9 : MT_values b = MT_values a) (e10 : MT_used b = MT_used a) (e11 : MT_written b = MT_written a) (e12 : MT_letters b = MT_letters a) : EX aa b ∧ T_MT b := by
  have i := sc_MT hI
  have sE := sc_EX hE
  constructor
  · refine ⟨by rw [e9]; exact sE.1, by rw [e10]; exact sE.2.1, by rw [e11]; exact sE.2.2.1, by rw [e12]; exact sE.2.2.2, fun x g0 hx => ?_⟩
    rw [hv] at hx
    have nn := o_nev g0 h0 hx
    have hx' : x < MT_values aa := by rw [hv]; exact hx
    obtain ⟨c1, c2, c3, c4, c5, c6, c7⟩ := hE.2.2.2.2 x g0 hx'
    rw [e1, e2, e3, e5, e6, e7, e8, o_updN nn]
    exact ⟨c1, c2, c3, c4, c5, c6, c7⟩
  · intro x g0 hx
    rw [e9] at hx
    have n0 := hT x g0 hx
    unfold N_MT at n0 ⊢
    rw [e1, e2, e3, e4, e5, e6, e7, e8, e9, e10, e11]
    obtain ⟨n1, n2, n3, n4, n5, n6, n7, n8, n9, n10, n11⟩ := n0
    by_cases hxv : x = v
    · subst hxv
      rw [o_updE]
      refine ⟨n1, n2, n3, n4, fun z => ?_, fun z => ?_, n7, n8, n9, n10, fun z => ?_⟩
      · obtain ⟨k1, k2, k3, k4⟩ := n5 z
        exact ⟨k1, hq.1, k3, hq.2⟩
      · rw [hk4] at z
        exact absurd z (by decide)
      · rw [hk4] at z
        exact absurd z (by decide)
    · have nn : x.toNatClampNeg ≠ v.toNatClampNeg := o_neq g0 h0 hxv
      rw [o_updN nn]
      exact ⟨n1, n2, n3, n4, n5, n6, n7, n8, n9, n10, n11⟩
/-- a value that stands by itself -/
def ND (s : SMT) (v p : Int32) : Prop := MT_next s v.toNatClampNeg = -1 ∧ MT_name s v.toNatClampNeg = -1 ∧ MT_parent s v.toNatClampNeg = p
theorem EX_ND {a b : SMT} {v p : Int32} (h : EX a b) (h0 : 0 ≤ v) (h1 : v < MT_values a) (hn : ND a v p) : ND b v p := by
  obtain ⟨c1, c2, c3, c4, c5, c6, c7⟩ := h.2.2.2.2 v h0 h1
  exact ⟨c4.trans hn.1, c5.trans hn.2.1, c7.trans hn.2.2⟩
theorem FR_ND {a b : SMT} {p k : Int32} (h : FR a b p k) : ND b (MT_values a) p := by
  obtain ⟨e1, e2, e3, e4, e5, e6, e7, e8, e9, e10, e11, e12, e13⟩ := h
  refine ⟨?_, ?_, ?_⟩
  · rw [e6, o_updE]
  · rw [e7, o_updE]
  · rw [e3, o_updE]
/-- how a reading method ends -/
def VP (a b : SMT) (r p : Int32) : Prop := EX a b ∧ (r ≠ 0 → MT_values a < MT_values b ∧ ND b (MT_values a) p)
/-- a chain of k children that ends at last -/
def CHE (next par : Nat → Int32) (vals x last : Int32) : Nat → Int32 → Prop
  | 0, _ => False
  | k + 1, m => 0 ≤ m ∧ m < vals ∧ par m.toNatClampNeg = x ∧ ((k = 0 ∧ m = last) ∨ CHE next par vals x last k (next m.toNatClampNeg))
theorem CHE_mono {next par next' par' : Nat → Int32} {v v' x last : Int32} (h1 : ∀ y : Int32, 0 ≤ y → y < v → next' y.toNatClampNeg = next y.toNatClampNeg ∧ par' y.toNatClampNeg = par y.toNatClampNeg) (h2 : v ≤ v') : ∀ (k : Nat) (m : Int32), CHE next par v x last k m → CHE next' par' v' x last k m := by
  intro k
  induction k with
  | zero => intro m h; exact h
  | succ k ih =>
    intro m h
    obtain ⟨a, b, c, d⟩ := h
    obtain ⟨e1, e2⟩ := h1 m a b
    refine ⟨a, Int32.lt_of_lt_of_le b h2, by rw [e2]; exact c, ?_⟩
    rw [e1]
    rcases d with d | d
    · exact Or.inl d
    · exact Or.inr (ih _ d)
theorem CHE_last {next par : Nat → Int32} {v x last : Int32} : ∀ (k : Nat) (m : Int32), CHE next par v x last k m → 0 ≤ last ∧ last < v ∧ par last.toNatClampNeg = x := by
  intro k
  induction k with
  | zero => intro m h; exact h.elim
  | succ k ih =>
    intro m h
    obtain ⟨a, b, c, d⟩ := h
    rcases d with d | d
    · rw [← d.2]; exact ⟨a, b, c⟩
    · exact ih _ d
/-- one more child behind the last -/
theorem CHE_app {next par : Nat → Int32} {v x last w : Int32} (hl : next last.toNatClampNeg = -1) (h0 : 0 ≤ last) (hw0 : 0 ≤ w) (hwv : w < v) (hwp : par w.toNatClampNeg = x) (hwl : w.toNatClampNeg ≠ last.toNatClampNeg) (hwn : next w.toNatClampNeg = -1) : ∀ (k : Nat) (m : Int32), CHE next par v x last k m → CHE (upd next last.toNatClampNeg w) par v x w (k + 1) m ∧ CH (upd next last.toNatClampNeg w) par v x (k + 1) m := by
  intro k
  induction k with
  | zero => intro m h; exact h.elim
  | succ k ih =>
    intro m h
    obtain ⟨a, b, c, d⟩ := h
    have ew : upd next last.toNatClampNeg w w.toNatClampNeg = -1 := by rw [o_updN hwl]; exact hwn
    rcases d with d | d
    · obtain ⟨d1, d2⟩ := d
      subst d2
      subst d1
      refine ⟨⟨a, b, c, Or.inr ?_⟩, ⟨a, b, c, ?_⟩⟩
      · rw [o_updE]; exact ⟨hw0, hwv, hwp, Or.inl ⟨rfl, rfl⟩⟩
      · rw [o_updE]; exact ⟨hw0, hwv, hwp, ew⟩
    · by_cases e : m = last
      · subst e
        rw [hl] at d
        cases k with
        | zero => exact d.elim
        | succ k => exact absurd d.1 (by decide)
      · have nn : m.toNatClampNeg ≠ last.toNatClampNeg := o_neq a h0 e
        obtain ⟨i1, i2⟩ := ih _ d
        exact ⟨⟨a, b, c, Or.inr (by rw [o_updN nn]; exact i1)⟩, ⟨a, b, c, by rw [o_updN nn]; exact i2⟩⟩
/-- another parent's chain does not see it -/
theorem CH_upd {next par : Nat → Int32} {v x last w : Int32} (hp : par last.toNatClampNeg ≠ x) : ∀ (k : Nat) (m : Int32), CH next par v x k m → CH (upd next last.toNatClampNeg w) par v x k m := by
  intro k
  induction k with
  | zero => intro m h; exact h
  | succ k ih =>
    intro m h
    obtain ⟨a, b, c, d⟩ := h
    have nn : m.toNatClampNeg ≠ last.toNatClampNeg := by intro e; rw [e] at c; exact hp c
    exact ⟨a, b, c, by rw [o_updN nn]; exact ih _ d⟩
/-- the last child so far -/
def LST (s : SMT) (v last : Int32) : Prop :=
  (last = -1 ∧ MT_many s v.toNatClampNeg = 0 ∧ MT_first s v.toNatClampNeg = -1) ∨
  (v < last ∧ last < MT_values s ∧ MT_next s last.toNatClampNeg = -1 ∧ (MT_kind s v.toNatClampNeg = 5 → MT_name s last.toNatClampNeg = -1) ∧ CHE (MT_next s) (MT_parent s) (MT_values s) v last (MT_many s v.toNatClampNeg).toInt.toNat (MT_first s v.toNatClampNeg))
theorem LST_EX {a b : SMT} {v last : Int32} (h : EX a b) (h0 : 0 ≤ v) (h1 : v < MT_values a) (hl : LST a v last) : LST b v last := by
  obtain ⟨c1, c2, c3, c4, c5, c6, c7⟩ := h.2.2.2.2 v h0 h1
  unfold LST
  rw [c1, c2, c3]
  rcases hl with l | l
  · exact Or.inl l
  · obtain ⟨l1, l2, l3, l4, l5⟩ := l
    obtain ⟨d1, d2, d3, d4, d5, d6, d7⟩ := h.2.2.2.2 last (Int32.le_of_lt (Int32.lt_of_le_of_lt h0 l1)) l2
    rw [d4, d5]
    exact Or.inr ⟨l1, Int32.lt_of_lt_of_le l2 h.1, l3, l4, CHE_mono (fun y y0 yv => ⟨(h.2.2.2.2 y y0 yv).2.2.2.1, (h.2.2.2.2 y y0 yv).2.2.2.2.2.2⟩) h.1 _ _ l5⟩
theorem o_cnt {m : Int32} (h0 : 0 ≤ m) (h : m < 1000) : (m + 1).toInt.toNat = m.toInt.toNat + 1 := by
  have e := o_add1 (x := m) (by grind)
  have g := Int32.le_iff_toInt_le.mp h0
  have z : (0 : Int32).toInt = 0 := rfl
  rw [z] at g
  omega
/-- a child is hung behind the last one -/
theorem T_link {aa s t : SMT} {v last k nm : Int32} (hI : I_MT s) (hT : T_MT s) (hE : EX aa s) (hv : MT_values aa = v) (h0 : 0 ≤ v) (hvk : v < k) (hk : k < MT_values s) (hnd : MT_next s k.toNatClampNeg = -1 ∧ MT_parent s k.toNatClampNeg = v) (hl : LST s v last) (hlk : last < k) (hm : MT_many s v.toNatClampNeg < k) (hk5 : MT_kind s v.toNatClampNeg = 5 ∨ MT_kind s v.toNatClampNeg = 6)
    (e1 : MT_kind t = MT_kind s) (e2 : MT_many t = upd (MT_many s) v.toNatClampNeg (MT_many s v.toNatClampNeg + 1)) (e3 : MT_parent t = MT_parent s) (e4 : MT_power t = MT_power s) (e5 : MT_first t = if 0 ≤ last then MT_first s else upd (MT_first s) v.toNatClampNeg k) (e6 : MT_next t = if 0 ≤ last then upd (MT_next s) last.toNatClampNeg k else MT_next s)
    (e7 : (MT_name t = MT_name s ∧ MT_kind s v.toNatClampNeg = 5 ∧ MT_name s k.toNatClampNeg = -1) ∨ (MT_name t = upd (MT_name s) k.toNatClampNeg nm ∧ MT_kind s v.toNatClampNeg = 6 ∧ 0 ≤ nm ∧ nm < k ∧ MT_kind s nm.toNatClampNeg = 4 ∧ v + 2 ≤ k ∧ (0 ≤ last → last + 2 ≤ k)))
    (e8 : MT_from t = MT_from s) (e9 : MT_values t = MT_values s) (e10 : MT_used t = MT_used s) (e11 : MT_written t = MT_written s) (e12 : MT_letters t = MT_letters s) : EX aa t ∧ T_MT t ∧ LST t v k := by
  have i := sc_MT hI
  have sE := sc_EX hE
  have k0 : 0 ≤ k := Int32.le_of_lt (Int32.lt_of_le_of_lt h0 hvk)
  have hvs : v < MT_values s := Int32.lt_trans hvk hk
  have lcase : (last = -1 ∧ ¬ (0 ≤ last)) ∨ (v < last ∧ 0 ≤ last) := by
    rcases hl with l | l
    · left; refine ⟨l.1, ?_⟩; rw [l.1]; decide
    · right; exact ⟨l.1, Int32.le_of_lt (Int32.lt_of_le_of_lt h0 l.1)⟩
  have nkv : k.toNatClampNeg ≠ v.toNatClampNeg := o_neq k0 h0 (by intro e; rw [e] at hvk; exact absurd hvk (by grind))
  have name_low : ∀ x : Int32, 0 ≤ x → x ≠ k → MT_name t x.toNatClampNeg = MT_name s x.toNatClampNeg := by
    intro x x0 xk
    rcases e7 with q | q
    · rw [q.1]
    · rw [q.1, o_updN (o_neq x0 k0 xk)]
  have name_keep : ∀ x : Int32, 0 ≤ x → MT_name s x.toNatClampNeg ≠ -1 → MT_name t x.toNatClampNeg ≠ -1 := by
    intro x x0 hx
    by_cases e : x = k
    · subst e
      rcases e7 with q | q
      · rw [q.1]; exact hx
      · rw [q.1, o_updE]; intro z; rw [z] at q; exact absurd q.2.2.1 (by decide)
    · rw [name_low x x0 e]; exact hx
  have next_low : ∀ x : Int32, 0 ≤ x → x ≠ last → MT_next t x.toNatClampNeg = MT_next s x.toNatClampNeg := by
    intro x x0 xl
    rw [e6]
    split
    · rename_i hh; rw [o_updN (o_neq x0 hh xl)]
    · rfl
  refine ⟨?_, ?_, ?_⟩
  · refine ⟨by rw [e9]; exact sE.1, by rw [e10]; exact sE.2.1, by rw [e11]; exact sE.2.2.1, by rw [e12]; exact sE.2.2.2, fun x x0 hx => ?_⟩
    obtain ⟨c1, c2, c3, c4, c5, c6, c7⟩ := hE.2.2.2.2 x x0 hx
    rw [hv] at hx
    have nn := o_nev x0 h0 hx
    have xk : x ≠ k := by intro e; rw [e] at hx; exact absurd (Int32.lt_trans hx hvk) (by grind)
    have xl : x ≠ last := by
      intro e
      rcases lcase with l | l
      · rw [e, l.1] at x0; exact absurd x0 (by decide)
      · rw [e] at hx; exact absurd (Int32.lt_trans hx l.1) (by grind)
    rw [e1, e2, e3, e8, o_updN nn, name_low x x0 xk, next_low x x0 xl]
    refine ⟨c1, c2, ?_, c4, c5, c6, c7⟩
    rw [e5]
    split
    · exact c3
    · rw [o_updN nn]; exact c3
  · intro x x0 hx
    rw [e9] at hx
    obtain ⟨n1, n2, n3, n4, n5, n6, n7, n8, n9, n10, n11⟩ := hT x x0 hx
    have first_eq : MT_first t x.toNatClampNeg = MT_first s x.toNatClampNeg ∨ (x = v ∧ ¬ 0 ≤ last ∧ MT_first t x.toNatClampNeg = k) := by
      rw [e5]
      split
      · exact Or.inl rfl
      · rename_i hh
        by_cases e : x = v
        · right; refine ⟨e, hh, ?_⟩; rw [e, o_updE]
        · left; rw [o_updN (o_neq x0 h0 e)]
    have next_eq : MT_next t x.toNatClampNeg = MT_next s x.toNatClampNeg ∨ (x = last ∧ 0 ≤ last ∧ MT_next t x.toNatClampNeg = k) := by
      by_cases e : x = last
      · rw [e6]
        split
        · rename_i hh; right; refine ⟨e, hh, ?_⟩; rw [e, o_updE]
        · exact Or.inl rfl
      · exact Or.inl (next_low x x0 e)
    unfold N_MT
    rw [e1, e3, e4, e8, e9, e10, e11]
    refine ⟨n1, ?_, ?_, ?_, ?_, ?_, n7, n8, ?_, ?_, ?_⟩
    · rcases first_eq with q | q
      · rw [q]; exact n2
      · rw [q.2.2, q.1]; exact Or.inr ⟨hvk, hk⟩
    · rcases next_eq with q | q
      · rw [q]; exact n3
      · rw [q.2.2, q.1]; exact Or.inr ⟨hlk, hk⟩
    · by_cases e : x = k
      · subst e
        rcases e7 with q | q
        · rw [q.1]; exact n4
        · rw [q.1, o_updE]; exact Or.inr ⟨q.2.2.1, q.2.2.2.1, q.2.2.2.2.1⟩
      · rw [name_low x x0 e]; exact n4
    · intro q4
      by_cases e : x = v
      · subst e; rcases hk5 with z | z <;> rw [z] at q4 <;> exact absurd q4 (by decide)
      · rw [e2, o_updN (o_neq x0 h0 e)]; exact n5 q4
    · intro q3
      by_cases e : x = v
      · subst e; rcases hk5 with z | z <;> rw [z] at q3 <;> exact absurd q3 (by decide)
      · rw [e2, o_updN (o_neq x0 h0 e)]; exact n6 q3
    · intro q6 qf
      rcases first_eq with q | q
      · rw [q] at qf ⊢
        have t9 := n9 q6 qf
        rcases n2 with z | z
        · exact absurd z qf
        · exact ⟨name_keep _ (Int32.le_of_lt (Int32.lt_of_le_of_lt x0 z.1)) t9.1, t9.2⟩
      · rw [q.2.2]
        rw [q.1] at q6 ⊢
        rcases e7 with w | w
        · rw [w.2.1] at q6; exact absurd q6 (by decide)
        · refine ⟨?_, w.2.2.2.2.2.1⟩
          rw [w.1, o_updE]; intro z; rw [z] at w; exact absurd w.2.2.1 (by decide)
    · intro qn qx
      rcases next_eq with q | q
      · rw [q] at qx ⊢
        by_cases e : x = k
        · subst e; exact absurd hnd.1 qx
        · rw [name_low x x0 e] at qn
          have t10 := n10 qn qx
          rcases n3 with z | z
          · exact absurd z qx
          · exact ⟨name_keep _ (Int32.le_of_lt (Int32.lt_of_le_of_lt x0 z.1)) t10.1, t10.2⟩
      · rw [q.2.2]
        rcases e7 with w | w
        · have xk : x ≠ k := by intro e; rw [q.1] at e; rw [e] at hlk; exact absurd hlk (by grind)
          rw [name_low x x0 xk, q.1] at qn
          rcases hl with l | l
          · rw [l.1] at q; exact absurd q.2.1 (by decide)
          · exact absurd (l.2.2.2.1 w.2.1) qn
        · refine ⟨?_, ?_⟩
          · rw [w.1, o_updE]; intro z; rw [z] at w; exact absurd w.2.2.1 (by decide)
          · rw [q.1]; exact w.2.2.2.2.2.2 q.2.1
    · intro q5
      obtain ⟨t1, t2, t3⟩ := n11 q5
      by_cases e : x = v
      · subst e
        rw [e2, o_updE]
        have m1 : MT_many s x.toNatClampNeg + 1 < MT_values s := by clear hT hE hl e7 t3; grind
        have m0 : 0 ≤ MT_many s x.toNatClampNeg + 1 := by clear hT hE hl e7 t3; grind
        refine ⟨m0, m1, ?_⟩
        rw [o_cnt t1 (by clear hT hE hl e7 t3; grind)]
        rcases hl with l | l
        · have nl : ¬ 0 ≤ last := by rw [l.1]; decide
          rw [e5, e6, if_neg nl, if_neg nl, o_updE, l.2.1]
          exact ⟨k0, hk, hnd.2, hnd.1⟩
        · have l0 : 0 ≤ last := Int32.le_of_lt (Int32.lt_of_le_of_lt h0 l.1)
          rw [e5, e6, if_pos l0, if_pos l0]
          exact (CHE_app l.2.2.1 l0 k0 hk hnd.2 (o_neq k0 l0 (by intro e; rw [e] at hlk; exact absurd hlk (by grind))) hnd.1 _ _ l.2.2.2.2).2
      · rw [e2, o_updN (o_neq x0 h0 e)]
        refine ⟨t1, t2, ?_⟩
        have fe : MT_first t x.toNatClampNeg = MT_first s x.toNatClampNeg := by
          rcases first_eq with q | q
          · exact q
          · exact absurd q.1 e
        rw [fe, e6]
        rcases hl with l | l
        · have nl : ¬ 0 ≤ last := by rw [l.1]; decide
          rw [if_neg nl]; exact t3
        · have l0 : 0 ≤ last := Int32.le_of_lt (Int32.lt_of_le_of_lt h0 l.1)
          rw [if_pos l0]
          exact CH_upd (by rw [(CHE_last _ _ l.2.2.2.2).2.2]; exact fun z => e z.symm) _ _ t3
  · right
    have nlk : k.toNatClampNeg ≠ last.toNatClampNeg ∨ ¬ 0 ≤ last := by
      by_cases l0 : 0 ≤ last
      · left; exact o_neq k0 l0 (by intro e; rw [e] at hlk; exact absurd hlk (by grind))
      · exact Or.inr l0
    have m0 := (hT v h0 hvs).2.2.2.2.2.2.2.2.2.2 (by rcases hk5 with z | z <;> rw [z] <;> decide)
    refine ⟨hvk, by rw [e9]; exact hk, ?_, ?_, ?_⟩
    · rw [e6]
      split
      · rename_i hh
        rcases nlk with z | z
        · rw [o_updN z]; exact hnd.1
        · exact absurd hh z
      · exact hnd.1
    · intro z
      rw [e1] at z
      rcases e7 with w | w
      · rw [w.1]; exact w.2.2
      · rw [w.2.1] at z; exact absurd z (by decide)
    · rw [e2, o_updE, e3, e9, o_cnt m0.1 (by have := m0.2.1; clear hT hE hl e7 m0; grind)]
      rcases hl with l | l
      · have nl : ¬ 0 ≤ last := by rw [l.1]; decide
        rw [e5, e6, if_neg nl, if_neg nl, o_updE, l.2.1]
        exact ⟨k0, hk, hnd.2, Or.inl ⟨rfl, rfl⟩⟩
      · have l0 : 0 ≤ last := Int32.le_of_lt (Int32.lt_of_le_of_lt h0 l.1)
        rw [e5, e6, if_pos l0, if_pos l0]
        exact (CHE_app l.2.2.1 l0 k0 hk hnd.2 (o_neq k0 l0 (by intro e; rw [e] at hlk; exact absurd hlk (by grind))) hnd.1 _ _ l.2.2.2.2).1
def I_NI (s : SNI) : Prop := 0 ≤ NI_fed s ∧ NI_fed s ≤ 8200
def I_NQ (s : SNQ) : Prop := 0 ≤ NQ_pairs s ∧ NQ_pairs s ≤ 300
theorem sc_NI {s : SNI} (h : I_NI s) : 0 ≤ NI_fed s ∧ NI_fed s ≤ 8200 := h
theorem sc_NQ {s : SNQ} (h : I_NQ s) : 0 ≤ NQ_pairs s ∧ NQ_pairs s ≤ 300 := h
