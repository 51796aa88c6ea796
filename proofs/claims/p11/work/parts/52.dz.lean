/-! The digits of the numbers: what a reading leaves (whatever it answers) -/
def o_pc {α : Type} (o : Option α) (P : α → Prop) : Prop := ∀ r, o = some r → P r
theorem pcS {α : Type} {r : α} {P : α → Prop} (h : P r) : o_pc (some r) P := by
  intro r' e
  cases e
  exact h
theorem pcE {α β : Type} {o : Option α} {k : α → Option β} {P : β → Prop} (h : ∀ a, o = some a → o_pc (k a) P) : o_pc (o_bd o k) P := by
  intro r e
  obtain ⟨a, e1, e2⟩ := o_bd_some e
  exact h a e1 r e2
theorem pcB {α β : Type} {o : Option α} {k : α → Option β} {Q : α → Prop} {P : β → Prop} (h : o_pc o Q) (h2 : ∀ a, Q a → o_pc (k a) P) : o_pc (o_bd o k) P := pcE (fun a e => h2 a (h a e))
theorem pcX {α β : Type} {o : Option α} {k : α → Option β} {P : β → Prop} (h : ∀ a, o_pc (k a) P) : o_pc (o_bd o k) P := pcE (fun a _ => h a)
theorem pcN {α β : Type} {x : α} {k : α → Option β} {P : β → Prop} (h : ∀ y, y = x → o_pc (k y) P) : o_pc (o_nm x k) P := h x rfl
theorem pcG {β : Type} {b : Bool} {k : Option β} {P : β → Prop} (h : b = true → o_pc k P) : o_pc (o_gd b k) P := by
  unfold o_gd
  by_cases c : b = true
  · rw [if_pos c]; exact h c
  · rw [if_neg c]; intro r e; cases e
theorem pcI {β : Type} {c : Prop} [Decidable c] {A B : Option β} {P : β → Prop} (h1 : c → o_pc A P) (h2 : ¬ c → o_pc B P) : o_pc (if c then A else B) P := by
  by_cases h : c
  · rw [if_pos h]; exact h1 h
  · rw [if_neg h]; exact h2 h
theorem pcW {α : Type} {o : Option α} {Q P : α → Prop} (h : o_pc o Q) (h2 : ∀ r, Q r → P r) : o_pc o P := fun r e => h2 r (h r e)
theorem pcK {α : Type} {o : Option α} {P : α → Prop} (h : o_ok o P) : o_pc o P := by
  obtain ⟨r, e, hr⟩ := h
  intro r' e'
  rw [e] at e'
  cases e'
  exact hr
theorem pcL {σ : Type} {f : σ → Option (Nat × σ)} {P : Nat × σ → Prop} (I : σ → Prop) (h : ∀ z, I z → o_pc (f z) (fun q => (q.1 = 0 → I q.2) ∧ (q.1 ≠ 0 → P q))) : ∀ (n : Nat) (z : σ), I z → o_pc (o_lp n f z) P := by
  intro n
  induction n with
  | zero => intro z _ r e; cases e
  | succ n ih =>
    intro z hz
    show o_pc (o_bd (f z) fun q => if q.1 = 0 then o_lp n f q.2 else some q) P
    refine pcB (h z hz) (fun q hq => pcI (fun c => ih _ (hq.1 c)) (fun c => pcS (hq.2 c)))
/-- every way out and on keeps it -/
theorem pcLs {σ : Type} {f : σ → Option (Nat × σ)} (I : σ → Prop) (h : ∀ z, I z → o_pc (f z) (fun q => I q.2)) (n : Nat) (z : σ) (hz : I z) : o_pc (o_lp n f z) (fun q => I q.2) :=
  pcL I (fun z hz => pcW (h z hz) (fun _ hq => ⟨fun _ => hq, fun _ => hq⟩)) n z hz
def SMr (a b : SMT) : Prop := MT_digits b = MT_digits a ∧ MT_written b = MT_written a ∧ MT_kind b = MT_kind a ∧ MT_many b = MT_many a ∧ MT_from b = MT_from a ∧ MT_values b = MT_values a
theorem SM_rfl {a : SMT} : SMr a a := ⟨rfl, rfl, rfl, rfl, rfl, rfl⟩
theorem SM_trans {a b c : SMT} (h : SMr a b) (g : SMr b c) : SMr a c := ⟨g.1.trans h.1, g.2.1.trans h.2.1, g.2.2.1.trans h.2.2.1, g.2.2.2.1.trans h.2.2.2.1, g.2.2.2.2.1.trans h.2.2.2.2.1, g.2.2.2.2.2.trans h.2.2.2.2.2⟩
def NZd (s : SMT) (i : Nat) : Prop := ∃ k : Int32, 0 ≤ k ∧ k < MT_many s i ∧ gi (MT_from s i + k) < gi (MT_written s) ∧ MT_digits s (gi (MT_from s i + k)) ≠ 0
def DZ (s : SMT) : Prop := o_bn 0 9 (MT_digits s) ∧ (0 ≤ (MT_written s).toInt ∧ (MT_written s).toInt ≤ 8192) ∧ ∀ i : Nat, i < gi (MT_values s) → MT_kind s i = 3 → MT_many s i ≠ 0 → NZd s i
def KF (a b : SMT) : Prop := gi (MT_values a) ≤ gi (MT_values b) ∧ ∀ i : Nat, i < gi (MT_values a) → MT_kind b i = MT_kind a i
def DK (a s : SMT) : Prop := KF a s ∧ DZ s
theorem KF_rfl {a : SMT} : KF a a := ⟨Nat.le_refl _, fun _ _ => rfl⟩
theorem KF_trans {a b c : SMT} (h : KF a b) (g : KF b c) : KF a c := ⟨Nat.le_trans h.1 g.1, fun i hi => (g.2 i (Nat.lt_of_lt_of_le hi h.1)).trans (h.2 i hi)⟩
theorem DK_trans {a b c : SMT} (h : DK a b) (g : DK b c) : DK a c := ⟨KF_trans h.1 g.1, g.2⟩
theorem DK_alt {a s t : SMT} (x : Nat) (h : DK a s) (e1 : MT_digits t = MT_digits s) (e2 : MT_written t = MT_written s) (e3 : MT_kind t = MT_kind s) (e4 : MT_values t = MT_values s) (hk : MT_kind s x ≠ 3) (hm : ∀ i, i ≠ x → MT_many t i = MT_many s i) (hf : ∀ i, i ≠ x → MT_from t i = MT_from s i) : DK a t := by
  obtain ⟨⟨k1, k2⟩, d1, d2, d3⟩ := h
  refine ⟨⟨by rw [e4]; exact k1, fun i hi => by rw [e3]; exact k2 i hi⟩, by rw [e1]; exact d1, by rw [e2]; exact d2, ?_⟩
  intro i hi k3 hmi
  rw [e4] at hi
  rw [e3] at k3
  have ne : i ≠ x := fun e => hk (by rw [← e]; exact k3)
  rw [hm i ne] at hmi
  obtain ⟨k, a1, a2, a3, a4⟩ := d3 i hi k3 hmi
  unfold NZd
  rw [hm i ne, hf i ne, e1, e2]
  exact ⟨k, a1, a2, a3, a4⟩
theorem DK_sm {a s t : SMT} (h : DK a s) (g : SMr s t) : DK a t := by
  obtain ⟨e1, e2, e3, e4, e5, e6⟩ := g
  obtain ⟨⟨k1, k2⟩, d1, d2, d3⟩ := h
  refine ⟨⟨by rw [e6]; exact k1, fun i hi => by rw [e3]; exact k2 i hi⟩, by rw [e1]; exact d1, by rw [e2]; exact d2, ?_⟩
  unfold NZd
  rw [e1, e2, e3, e4, e5, e6]
  exact d3
theorem c_bad {x1 : Int32} {a0 : SMT} : o_pc (m_MT_bad x1 a0) (fun r => SMr a0 r.2) := by
  unfold m_MT_bad
  exact pcI (fun _ => pcS SM_rfl) (fun _ => pcS ⟨rfl, rfl, rfl, rfl, rfl, rfl⟩)
theorem c_put {x1 x2 : Int32} {a0 : SMT} : o_pc (m_MT_put x1 x2 a0) (fun r => SMr a0 r.2) := by
  unfold m_MT_put
  exact pcI (fun _ => pcB c_bad (fun q hq => pcG (fun _ => pcS hq))) (fun _ => pcG (fun _ => pcS ⟨rfl, rfl, rfl, rfl, rfl, rfl⟩))
theorem c_blanks {n : Nat} {a0 : SMT} : o_pc (m_MT_blanks n a0) (fun r => SMr a0 r) := by
  unfold m_MT_blanks
  refine pcB (pcLs (fun z => SMr a0 z) ?_ n a0 SM_rfl) (fun q hq => pcS hq)
  intro z hz
  have j : o_pc (m_MT_blanks_j52 n z) (fun q => SMr a0 q.2) := by
    unfold m_MT_blanks_j52
    exact pcS hz
  unfold m_MT_blanks_b0
  exact pcX (fun _ => pcI (fun _ => j) (fun _ => pcX (fun _ => pcI (fun _ => j) (fun _ => pcX (fun _ => pcI (fun _ => j) (fun _ => pcX (fun _ => pcI (fun _ => j) (fun _ => pcS hz))))))))
theorem c_esc273 {n : Nat} {x1 x3 y0 : Int32} {a0 : SMT} : o_pc (m_MT_escape_j273 n x1 x3 y0 a0) (fun r => SMr a0 r.2) := by
  unfold m_MT_escape_j273
  exact pcX (fun _ => pcI (fun _ => pcB c_bad (fun q hq => pcG (fun _ => pcS hq))) (fun _ => pcB c_put (fun q hq => pcG (fun _ => pcS hq))))
theorem c_esc159 {n : Nat} {x4 : Int32} {a0 : SMT} : o_pc (m_MT_escape_j159 n x4 a0) (fun r => SMr a0 r.2) := by
  unfold m_MT_escape_j159
  exact pcB c_bad (fun q hq => pcG (fun _ => pcS hq))
theorem c_esc86 {n : Nat} {x1 x2 y0 : Int32} {a0 : SMT} : o_pc (m_MT_escape_j86 n x1 x2 y0 a0) (fun r => SMr a0 r.2) := by
  unfold m_MT_escape_j86
  refine pcI (fun _ => pcI (fun _ => pcX (fun _ => pcI (fun _ => c_esc159) (fun _ => pcX (fun _ => pcX (fun _ => pcI (fun _ => pcX (fun _ => pcI (fun _ => ?_) (fun _ => pcX (fun _ => pcI (fun _ => pcX (fun _ => pcI (fun _ => pcX (fun _ => c_esc273)) (fun _ => c_esc273))) (fun _ => c_esc273))))) (fun _ => ?_)))))) (fun _ => ?_)) (fun _ => ?_)
  · exact pcB c_put (fun q hq => pcG (fun _ => pcS hq))
  · exact pcB c_bad (fun q hq => pcG (fun _ => pcS hq))
  · exact pcB c_bad (fun q hq => pcG (fun _ => pcS hq))
  · exact pcB c_put (fun q hq => pcG (fun _ => pcS hq))
theorem c_escape {n : Nat} {x1 : Int32} {a0 : SMT} : o_pc (m_MT_escape n x1 a0) (fun r => SMr a0 r.2) := by
  unfold m_MT_escape
  refine pcX (fun _ => ?_)
  iterate 8 refine pcI (fun _ => c_esc86) (fun _ => ?_)
  exact c_esc86
theorem c_w210 {n : Nat} {x1 x3 x4 : Int32} {a0 : SMT} : o_pc (m_MT_wide_j210 n x1 x3 x4 a0) (fun r => SMr a0 r.2) := by
  unfold m_MT_wide_j210
  exact pcB c_put (fun q hq => pcG (fun _ => pcS hq))
theorem c_w204 {n : Nat} {x1 : Int32} {a0 : SMT} : o_pc (m_MT_wide_j204 n x1 a0) (fun r => SMr a0 r.2) := by
  unfold m_MT_wide_j204
  exact pcB c_bad (fun q hq => pcG (fun _ => pcS hq))
theorem c_w187 {n : Nat} {x1 x3 x4 : Int32} {a0 : SMT} : o_pc (m_MT_wide_j187 n x1 x3 x4 a0) (fun r => SMr a0 r.2) := by
  unfold m_MT_wide_j187
  exact pcI (fun _ => pcX (fun _ => pcI (fun _ => c_w204) (fun _ => c_w210))) (fun _ => c_w210)
theorem c_w90 {n : Nat} {x1 x3 y0 : Int32} {a0 : SMT} : o_pc (m_MT_wide_j90 n x1 x3 y0 a0) (fun r => SMr a0 r.2) := by
  unfold m_MT_wide_j90
  refine pcI (fun _ => pcB c_bad (fun q hq => pcG (fun _ => pcS hq))) (fun _ => pcX (fun _ => pcI (fun _ => pcB c_bad (fun q hq => pcG (fun _ => pcS hq))) (fun _ => ?_)))
  exact pcI (fun _ => pcI (fun _ => c_w204) (fun _ => pcX (fun _ => pcI (fun _ => c_w187) (fun _ => c_w204)))) (fun _ => c_w187)
theorem c_w61 {n : Nat} {x1 x2 y0 : Int32} {a0 : SMT} : o_pc (m_MT_wide_j61 n x1 x2 y0 a0) (fun r => SMr a0 r.2) := by
  unfold m_MT_wide_j61
  exact pcI (fun _ => c_w90) (fun _ => pcI (fun _ => c_w90) (fun _ => c_w90))
theorem c_w42 {n : Nat} {x1 x2 : Int32} {a0 : SMT} : o_pc (m_MT_wide_j42 n x1 x2 a0) (fun r => SMr a0 r.2) := by
  unfold m_MT_wide_j42
  exact pcI (fun _ => c_w61) (fun _ => pcI (fun _ => c_w61) (fun _ => c_w61))
theorem c_w24 {n : Nat} {x1 x2 : Int32} {a0 : SMT} : o_pc (m_MT_wide_j24 n x1 x2 a0) (fun r => SMr a0 r.2) := by
  unfold m_MT_wide_j24
  exact pcI (fun _ => c_w42) (fun _ => pcI (fun _ => c_w42) (fun _ => c_w61))
theorem c_wide {n : Nat} {x1 : Int32} {a0 : SMT} : o_pc (m_MT_wide n x1 a0) (fun r => SMr a0 r.2) := by
  unfold m_MT_wide
  exact pcX (fun _ => pcI (fun _ => c_w24) (fun _ => pcI (fun _ => c_w24) (fun _ => c_w61)))
theorem in_nn {i : Int32} {n : Nat} (h : o_in i n = true) : 0 ≤ i ∧ gi i < n := by
  have g := o_in_in h
  unfold vp_in at g
  refine ⟨Int32.not_lt.mp (fun c => g (Or.inl c)), Nat.lt_of_not_le (fun c => g (Or.inr c))⟩
theorem gi_p1 {v : Int32} (h : o_in v 1000 = true) : gi (v + 1) = gi v + 1 := by
  obtain ⟨a, b⟩ := in_nn h
  have e := gi_tnc a
  have l : v.toInt ≤ 1000000 := by omega
  obtain ⟨p1, p2, _⟩ := i32p l a
  have e2 := gi_tnc p2
  omega
/-- a new value -/
theorem c_fresh {x1 x2 : Int32} {a0 : SMT} (h : DZ a0) : o_pc (m_MT_fresh x1 x2 a0) (fun r => DK a0 r.2 ∧ MT_kind r.2 (gi r.1) = x2 ∧ gi r.1 < gi (MT_values r.2)) := by
  unfold m_MT_fresh
  refine pcN (fun v ev => pcG (fun g => pcG (fun _ => pcG (fun _ => pcG (fun _ => pcG (fun _ => pcG (fun _ => pcG (fun _ => pcG (fun _ => pcS ?_)))))))))
  have ev : v = MT_values a0 := ev
  subst ev
  have e1 := gi_p1 g
  obtain ⟨d1, d2, d3⟩ := h
  refine ⟨⟨⟨?_, ?_⟩, d1, d2, ?_⟩, o_updE, ?_⟩
  · show gi (MT_values a0) ≤ gi (MT_values a0 + 1)
    omega
  · intro i hi
    exact o_updN (Nat.ne_of_lt hi)
  · intro i hi k3 hm
    have hi : i < gi (MT_values a0 + 1) := hi
    have k3 : upd (MT_kind a0) (gi (MT_values a0)) x2 i = 3 := k3
    have hm : upd (MT_many a0) (gi (MT_values a0)) 0 i ≠ 0 := hm
    by_cases c : i = gi (MT_values a0)
    · rw [c, o_updE] at hm
      exact absurd rfl hm
    · rw [o_updN c] at k3 hm
      obtain ⟨k, a1, a2, a3, a4⟩ := d3 i (by omega) k3 hm
      refine ⟨k, a1, ?_, a3, a4⟩
      show k < upd (MT_many a0) (gi (MT_values a0)) 0 i
      rw [o_updN c]; exact a2
  · show gi (MT_values a0) < gi (MT_values a0 + 1)
    omega
theorem c_word {n x1 : Nat} {x2 x3 : Int32} {a0 : SMT} (h : DZ a0) : o_pc (m_MT_word n x1 x2 x3 a0) (fun r => DK a0 r.2) := by
  unfold m_MT_word
  refine pcB (c_fresh h) (fun q1 h1 => ?_)
  refine pcB (pcLs (fun z => SMr q1.2 z.2) ?_ n _ SM_rfl) (fun q5 h5 => ?_)
  · intro z hz
    unfold m_MT_word_b10
    exact pcX (fun _ => pcI (fun _ => pcS hz) (fun _ => pcX (fun _ => pcX (fun _ => pcI (fun _ => pcN (fun _ _ => pcS hz)) (fun _ => pcS hz)))))
  · exact pcI (fun _ => pcB c_bad (fun q hq => pcG (fun _ => pcS (DK_sm h1.1 (SM_trans h5 hq))))) (fun _ => pcS (DK_sm h1.1 h5))
theorem c_string {n : Nat} {x1 : Int32} {a0 : SMT} (h : DZ a0) : o_pc (m_MT_string n x1 a0) (fun r => DK a0 r.2) := by
  unfold m_MT_string
  refine pcB (c_fresh h) (fun q1 ⟨h1, h2, h3⟩ => pcG (fun _ => ?_))
  have k4 : MT_kind q1.2 (gi q1.1) ≠ 3 := by rw [h2]; decide
  obtain ⟨b, eb⟩ : ∃ b : SMT, b = MT_mk (MT_text q1.2) (MT_kind q1.2) (MT_place q1.2) (MT_many q1.2) (MT_parent q1.2) (MT_power q1.2) (MT_first q1.2) (MT_next q1.2) (MT_name q1.2) (upd (MT_from q1.2) (gi q1.1) (MT_used q1.2)) (MT_characters q1.2) (MT_digits q1.2) (MT_minus q1.2) (MT_values q1.2) (MT_letters q1.2) ((MT_at q1.2) + (1:Int32)) (MT_wrong q1.2) (MT_used q1.2) (MT_written q1.2) (MT_left q1.2) := ⟨_, rfl⟩
  have hb : DK a0 b := by
    rw [eb]
    exact DK_alt (gi q1.1) h1 rfl rfl rfl rfl k4 (fun _ _ => rfl) (fun i hi => o_updN hi)
  have kb : MT_kind b = MT_kind q1.2 := by rw [eb]
  rw [← eb]
  refine pcB (pcLs (fun z => SMr b z) ?_ n _ SM_rfl) (fun q6 h6 => ?_)
  · intro z hz
    unfold m_MT_string_b27
    refine pcX (fun _ => pcN (fun _ _ => pcI (fun _ => pcI (fun _ => pcS hz) (fun _ => pcI (fun _ => ?_) (fun _ => pcI (fun _ => ?_) (fun _ => ?_)))) (fun _ => pcS hz)))
    · exact pcB c_escape (fun q hq => pcI (fun _ => pcS (SM_trans hz hq)) (fun _ => pcS (SM_trans hz hq)))
    · exact pcB c_wide (fun q hq => pcI (fun _ => pcS (SM_trans hz hq)) (fun _ => pcS (SM_trans hz hq)))
    · exact pcB c_put (fun q hq => pcI (fun _ => pcS (SM_trans hz hq)) (fun _ => pcS (SM_trans hz hq)))
  have h7 : DK a0 q6.2 := DK_sm hb h6
  refine pcI (fun _ => pcB c_bad (fun q hq => pcG (fun _ => pcS (DK_sm h7 hq)))) (fun _ => pcI (fun _ => pcG (fun _ => pcG (fun _ => pcS ?_))) (fun _ => pcI (fun _ => pcS h7) (fun _ => pcI (fun _ => pcS h7) (fun _ => pcS h7))))
  exact DK_alt (gi q1.1) h7 rfl rfl rfl rfl (by rw [h6.2.2.1, kb]; exact k4) (fun i hi => o_updN hi) (fun _ _ => rfl)
