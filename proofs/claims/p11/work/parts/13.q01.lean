/-! The two readers side by side: 'if both answer, then' -/
def o_p2 {α β : Type} (o : Option α) (o' : Option β) (R : α → β → Prop) : Prop := ∀ r r', o = some r → o' = some r' → R r r'
theorem q2S {α β : Type} {r : α} {r' : β} {R : α → β → Prop} (h : R r r') : o_p2 (some r) (some r') R := by
  intro a b e e'
  cases e
  cases e'
  exact h
theorem q2B {α β γ δ : Type} {o : Option α} {o' : Option β} {k : α → Option γ} {k' : β → Option δ} {Q : α → β → Prop} {R : γ → δ → Prop} (h : o_p2 o o' Q) (h2 : ∀ a b, Q a b → o_p2 (k a) (k' b) R) : o_p2 (o_bd o k) (o_bd o' k') R := by
  intro r r' e e'
  obtain ⟨a, e1, e2⟩ := o_bd_some e
  obtain ⟨b, e3, e4⟩ := o_bd_some e'
  exact h2 a b (h a b e1 e3) r r' e2 e4
theorem q2Q {α γ δ : Type} {o : Option α} {k : α → Option γ} {k' : α → Option δ} {R : γ → δ → Prop} (h : ∀ a, o = some a → o_p2 (k a) (k' a) R) : o_p2 (o_bd o k) (o_bd o k') R := by
  intro r r' e e'
  obtain ⟨a, e1, e2⟩ := o_bd_some e
  obtain ⟨b, e3, e4⟩ := o_bd_some e'
  rw [e1] at e3
  cases e3
  exact h a e1 r r' e2 e4
theorem q2L {α γ δ : Type} {o : Option α} {k : α → Option γ} {o' : Option δ} {R : γ → δ → Prop} (h : ∀ a, o = some a → o_p2 (k a) o' R) : o_p2 (o_bd o k) o' R := by
  intro r r' e e'
  obtain ⟨a, e1, e2⟩ := o_bd_some e
  exact h a e1 r r' e2 e'
theorem q2R {α γ δ : Type} {o : Option α} {k : α → Option γ} {o' : Option δ} {R : δ → γ → Prop} (h : ∀ a, o = some a → o_p2 o' (k a) R) : o_p2 o' (o_bd o k) R := by
  intro r r' e e'
  obtain ⟨a, e1, e2⟩ := o_bd_some e'
  exact h a e1 r r' e e2
theorem q2Le {α γ δ : Type} {o : Option α} {k : α → Option γ} {o' : Option δ} {R : γ → δ → Prop} {a : α} (e : o = some a) (h : o_p2 (k a) o' R) : o_p2 (o_bd o k) o' R := by
  subst e
  exact h
theorem q2Re {α γ δ : Type} {o : Option α} {k : α → Option γ} {o' : Option δ} {R : δ → γ → Prop} {a : α} (e : o = some a) (h : o_p2 o' (k a) R) : o_p2 o' (o_bd o k) R := by
  subst e
  exact h
theorem q2NL {α γ δ : Type} {x : α} {k : α → Option γ} {o' : Option δ} {R : γ → δ → Prop} (h : o_p2 (k x) o' R) : o_p2 (o_nm x k) o' R := h
theorem q2NR {α γ δ : Type} {x : α} {k : α → Option γ} {o' : Option δ} {R : δ → γ → Prop} (h : o_p2 o' (k x) R) : o_p2 o' (o_nm x k) R := h
theorem q2GL {γ δ : Type} {b : Bool} {k : Option γ} {o' : Option δ} {R : γ → δ → Prop} (h : b = true → o_p2 k o' R) : o_p2 (o_gd b k) o' R := by
  intro r r' e e'
  obtain ⟨c, e⟩ := o_gd_some e
  exact h c r r' e e'
theorem q2GR {γ δ : Type} {b : Bool} {k : Option γ} {o' : Option δ} {R : δ → γ → Prop} (h : b = true → o_p2 o' k R) : o_p2 o' (o_gd b k) R := by
  intro r r' e e'
  obtain ⟨c, e'⟩ := o_gd_some e'
  exact h c r r' e e'
theorem q2IL {γ δ : Type} {c : Prop} [Decidable c] {A B : Option γ} {o' : Option δ} {R : γ → δ → Prop} (h1 : c → o_p2 A o' R) (h2 : ¬ c → o_p2 B o' R) : o_p2 (if c then A else B) o' R := by
  by_cases h : c
  · rw [if_pos h]; exact h1 h
  · rw [if_neg h]; exact h2 h
theorem q2IR {γ δ : Type} {c : Prop} [Decidable c] {A B : Option γ} {o' : Option δ} {R : δ → γ → Prop} (h1 : c → o_p2 o' A R) (h2 : ¬ c → o_p2 o' B R) : o_p2 o' (if c then A else B) R := by
  by_cases h : c
  · rw [if_pos h]; exact h1 h
  · rw [if_neg h]; exact h2 h
theorem q2IB {γ δ : Type} {c c' : Prop} [Decidable c] [Decidable c'] {A B : Option γ} {A' B' : Option δ} {R : γ → δ → Prop} (hc : c ↔ c') (h1 : c → o_p2 A A' R) (h2 : ¬ c → o_p2 B B' R) : o_p2 (if c then A else B) (if c' then A' else B') R := by
  by_cases h : c
  · rw [if_pos h, if_pos (hc.mp h)]; exact h1 h
  · rw [if_neg h, if_neg (fun g => h (hc.mpr g))]; exact h2 h
theorem q2tL {γ δ : Type} {c : Prop} [Decidable c] {A B : Option γ} {o' : Option δ} {R : γ → δ → Prop} (hc : c) (h : o_p2 A o' R) : o_p2 (if c then A else B) o' R := by rw [if_pos hc]; exact h
theorem q2fL {γ δ : Type} {c : Prop} [Decidable c] {A B : Option γ} {o' : Option δ} {R : γ → δ → Prop} (hc : ¬ c) (h : o_p2 B o' R) : o_p2 (if c then A else B) o' R := by rw [if_neg hc]; exact h
theorem q2tR {γ δ : Type} {c : Prop} [Decidable c] {A B : Option γ} {o' : Option δ} {R : δ → γ → Prop} (hc : c) (h : o_p2 o' A R) : o_p2 o' (if c then A else B) R := by rw [if_pos hc]; exact h
theorem q2fR {γ δ : Type} {c : Prop} [Decidable c] {A B : Option γ} {o' : Option δ} {R : δ → γ → Prop} (hc : ¬ c) (h : o_p2 o' B R) : o_p2 o' (if c then A else B) R := by rw [if_neg hc]; exact h
theorem q2W {γ δ : Type} {o : Option γ} {o' : Option δ} {Q R : γ → δ → Prop} (h : o_p2 o o' Q) (h2 : ∀ r r', Q r r' → R r r') : o_p2 o o' R := fun r r' e e' => h2 r r' (h r r' e e')
theorem q2lp {σ τ : Type} {f : σ → Option (Nat × σ)} {g : τ → Option (Nat × τ)} {P : Nat × σ → Nat × τ → Prop} (I : σ → τ → Prop)
    (h : ∀ z z', I z z' → o_p2 (f z) (g z') (fun q q' => (q.1 = 0 ∧ q'.1 = 0 ∧ I q.2 q'.2) ∨ (q.1 ≠ 0 ∧ q'.1 ≠ 0 ∧ P q q') ∨ (q.1 = 0 ∧ q'.1 ≠ 0 ∧ ∀ m r, o_lp m f q.2 = some r → P r q'))) :
    ∀ (n m : Nat) (z : σ) (z' : τ), I z z' → o_p2 (o_lp n f z) (o_lp m g z') P := by
  intro n
  induction n with
  | zero => intro m z z' _ r r' e _; cases e
  | succ n ih =>
    intro m z z' hz r r' e e'
    cases m with
    | zero => cases e'
    | succ m =>
      obtain ⟨q, e1, e2⟩ := o_bd_some (show o_bd (f z) (fun q => if q.1 = 0 then o_lp n f q.2 else some q) = some r from e)
      obtain ⟨q', e3, e4⟩ := o_bd_some (show o_bd (g z') (fun q => if q.1 = 0 then o_lp m g q.2 else some q) = some r' from e')
      rcases h z z' hz q q' e1 e3 with ⟨a, b, c⟩ | ⟨a, b, c⟩ | ⟨a, b, c⟩
      · exact ih m q.2 q'.2 c r r' (o_tt a e2) (o_tt b e4)
      · have e2 := o_ff a e2
        have e4 := o_ff b e4
        cases e2
        cases e4
        exact c
      · have e4 := o_ff b e4
        cases e4
        exact c n r (o_tt a e2)
/-- one side alone -/
def o_pu {α : Type} (o : Option α) (P : α → Prop) : Prop := ∀ r, o = some r → P r
theorem q1lp {σ : Type} {f : σ → Option (Nat × σ)} {P : Nat × σ → Prop} (I : σ → Prop) (h : ∀ z, I z → o_pu (f z) (fun q => (q.1 = 0 ∧ I q.2) ∨ (q.1 ≠ 0 ∧ P q))) : ∀ (n : Nat) (z : σ), I z → o_pu (o_lp n f z) P := by
  intro n
  induction n with
  | zero => intro z _ r e; cases e
  | succ n ih =>
    intro z hz r e
    obtain ⟨q, e1, e2⟩ := o_bd_some (show o_bd (f z) (fun q => if q.1 = 0 then o_lp n f q.2 else some q) = some r from e)
    rcases h z hz q e1 with ⟨a, c⟩ | ⟨a, c⟩
    · exact ih q.2 c r (o_tt a e2)
    · have e2 := o_ff a e2
      cases e2
      exact c
theorem q1S {α : Type} {r : α} {P : α → Prop} (h : P r) : o_pu (some r) P := by
  intro a e
  cases e
  exact h
theorem q1B {α γ : Type} {o : Option α} {k : α → Option γ} {P : γ → Prop} (h : ∀ a, o = some a → o_pu (k a) P) : o_pu (o_bd o k) P := by
  intro r e
  obtain ⟨a, e1, e2⟩ := o_bd_some e
  exact h a e1 r e2
theorem q1G {γ : Type} {b : Bool} {k : Option γ} {P : γ → Prop} (h : b = true → o_pu k P) : o_pu (o_gd b k) P := by
  intro r e
  obtain ⟨c, e⟩ := o_gd_some e
  exact h c r e
theorem q1I {γ : Type} {c : Prop} [Decidable c] {A B : Option γ} {P : γ → Prop} (h1 : c → o_pu A P) (h2 : ¬ c → o_pu B P) : o_pu (if c then A else B) P := by
  by_cases h : c
  · rw [if_pos h]; exact h1 h
  · rw [if_neg h]; exact h2 h
theorem rr_inE {i : Int32} {n : Nat} {m : Int32} (hm : m.toInt = (n : Int)) (h : o_in i n = true) : 0 ≤ i ∧ i < m := by
  unfold o_in at h
  have h : ¬ i < 0 ∧ ¬ n ≤ i.toNatClampNeg := by simpa using h
  have h0 : 0 ≤ i := by have := h.1; grind
  have e := o_tnc h0
  refine ⟨h0, Int32.lt_iff_toInt_lt.mpr ?_⟩
  have := h.2
  omega
/-! Octets -/
def oc (w : Nat → Int32) (p : Int32) : Int32 := ((w (p >>> ((2:Int32) &&& 31)).toNatClampNeg).toUInt32 >>> (((24:Int32) - ((8:Int32) * (p &&& (3:Int32)))).toUInt32 &&& Int32.toUInt32 31)).toInt32 &&& (255:Int32)
def PK (w : Nat → Int32) (L p : Int32) : Int32 := if p < L then oc w p else -1
def TXT (t w : Nat → Int32) (L : Int32) : Prop := ∀ p : Int32, 0 ≤ p → p < L → t p.toNatClampNeg = oc w p
def RdOK (w : Nat → Int32) (L p : Int32) (Rd : SRd) : Prop := Rd_words Rd = w ∧ Rd_limit Rd = L ∧ Rd_position Rd = p ∧ Rd_wrongPlace Rd = -1
def MtOK (w : Nat → Int32) (L p : Int32) (a : SMT) : Prop := MT_letters a = L ∧ MT_at a = p ∧ MT_wrong a = -1 ∧ TXT (MT_text a) w L
def BP (L p : Int32) : Prop := 0 ≤ p ∧ p ≤ L ∧ L ≤ 8192
abbrev ps (Rd : SRd) (p : Int32) : SRd := Rd_mk (Rd_words Rd) (Rd_wordCount Rd) p (Rd_limit Rd) (Rd_wrongPlace Rd)
abbrev atM (a : SMT) (p : Int32) : SMT := MT_mk (MT_text a) (MT_kind a) (MT_place a) (MT_many a) (MT_parent a) (MT_power a) (MT_first a) (MT_next a) (MT_name a) (MT_from a) (MT_characters a) (MT_digits a) (MT_minus a) (MT_values a) (MT_letters a) p (MT_wrong a) (MT_used a) (MT_written a) (MT_left a)
/-- both have refused, at one place -/
def FL (Rd : SRd) (a : SMT) : Prop := Rd_wrongPlace Rd = MT_wrong a ∧ 0 ≤ MT_wrong a
theorem RdOK_ps {w : Nat → Int32} {L p p' : Int32} {Rd : SRd} (h : RdOK w L p Rd) : RdOK w L p' (ps Rd p') := ⟨h.1, h.2.1, rfl, h.2.2.2⟩
theorem MtOK_at {w : Nat → Int32} {L p p' : Int32} {a : SMT} (h : MtOK w L p a) : MtOK w L p' (atM a p') := ⟨h.1, rfl, h.2.2.1, h.2.2.2⟩
theorem BP_1 {L p : Int32} (h : BP L p) (g : p < L) : BP L (p + 1) := by
  unfold BP at h ⊢
  grind
theorem PK_lt {w : Nat → Int32} {L p : Int32} (h : PK w L p ≠ -1) : p < L := by
  unfold PK at h
  by_cases c : p < L
  · exact c
  · rw [if_neg c] at h
    exact absurd rfl h
theorem PK_end {w : Nat → Int32} {L p : Int32} (h : L ≤ p) : PK w L p = -1 := by
  unfold PK
  rw [if_neg (by grind)]
theorem oc_rng {w : Nat → Int32} {p : Int32} : 0 ≤ oc w p ∧ oc w p ≤ 255 := o_and255
theorem PK_rng {w : Nat → Int32} {L p : Int32} : -1 ≤ PK w L p ∧ PK w L p ≤ 255 := by
  unfold PK
  by_cases c : p < L
  · rw [if_pos c]
    have := oc_rng (w := w) (p := p)
    exact ⟨by grind, this.2⟩
  · rw [if_neg c]
    exact ⟨by decide, by decide⟩
theorem PK_nn {w : Nat → Int32} {L p : Int32} (h : p < L) : 0 ≤ PK w L p := by
  unfold PK
  rw [if_pos h]
  exact oc_rng.1
theorem rr_shr2 {x : Int32} : (x >>> ((2:Int32) &&& 31)).toInt = x.toInt / 4 := by
  have e : x >>> ((2:Int32) &&& 31) = ⟨⟨x.toBitVec.sshiftRight 2⟩⟩ := rfl
  rw [e]
  show (x.toBitVec.sshiftRight 2).toInt = _
  rw [BitVec.toInt_sshiftRight, Int.shiftRight_eq_div_pow]
  rfl
theorem rr_peek {w : Nat → Int32} {L p : Int32} {Rd : SRd} (h : RdOK w L p Rd) (b : BP L p) : m_Rd_peek Rd = some (PK w L p) := by
  obtain ⟨h1, h2, h3, h4⟩ := h
  obtain ⟨b1, b2, b3⟩ := b
  unfold m_Rd_peek o_nm
  rw [h1, h2, h3]
  dsimp only
  rw [if_neg (show ¬ p < 0 by grind)]
  by_cases c : L ≤ p
  · rw [if_pos c, PK_end c]
  · rw [if_neg c]
    have c1 : p < L := by grind
    have g0 := Int32.le_iff_toInt_le.mp b1
    have g1 := Int32.lt_iff_toInt_lt.mp c1
    have g2 := Int32.le_iff_toInt_le.mp b3
    have z0 : (0 : Int32).toInt = 0 := rfl
    have z1 : (8192 : Int32).toInt = 8192 := rfl
    have z2 : (2050 : Int32).toInt = 2050 := rfl
    have e := rr_shr2 (x := p)
    have k1 : p >>> ((2:Int32) &&& 31) < 2050 := Int32.lt_iff_toInt_lt.mpr (by omega)
    have k0 : 0 ≤ p >>> ((2:Int32) &&& 31) := Int32.le_iff_toInt_le.mpr (by omega)
    rw [if_pos k1]
    unfold o_gd
    rw [if_pos (o_inM (n := 2050) (m := 2050) rfl k0 k1)]
    unfold PK
    rw [if_pos c1]
    rfl
theorem rr_c {w : Nat → Int32} {L p p' : Int32} {a : SMT} (h : MtOK w L p' a) (h0 : 0 ≤ p) (hL : L ≤ 8192) : m_MT_c p a = some (PK w L p) := by
  obtain ⟨h1, h2, h3, h4⟩ := h
  unfold m_MT_c
  rw [h1]
  by_cases c : L ≤ p
  · rw [if_pos c, PK_end c]
  · rw [if_neg c]
    have c1 : p < L := by grind
    unfold o_gd
    rw [if_pos (o_inM (n := 8196) (m := 8196) rfl h0 (by grind))]
    unfold PK
    rw [if_pos c1, h4 p h0 c1]
theorem rr_blanks {n m : Nat} {w : Nat → Int32} {L p : Int32} {Rd : SRd} {a : SMT} (hR : RdOK w L p Rd) (hM : MtOK w L p a) (hb : BP L p) : o_p2 (m_Rd_skipBlanks n Rd) (m_MT_blanks m a) (fun r r' => ∃ p', BP L p' ∧ p ≤ p' ∧ r = ps Rd p' ∧ r' = atM a p') := by
  unfold m_Rd_skipBlanks m_MT_blanks
  refine q2B (q2lp (P := fun q q' => ∃ p', BP L p' ∧ p ≤ p' ∧ q.2.2 = ps Rd p' ∧ q'.2 = atM a p') (fun z z' => ∃ p', BP L p' ∧ p ≤ p' ∧ z.1 ≤ p' ∧ z.2 = ps Rd p' ∧ z' = atM a p') ?_ n m _ _ ?_) ?_
  · rintro ⟨i, R⟩ a' ⟨p', b1, b2, b3, b4, b5⟩
    replace b4 : R = ps Rd p' := b4
    replace b3 : i ≤ p' := b3
    subst b4 b5
    have k1 : m_Rd_peek (ps Rd p') = some (PK w L p') := rr_peek (RdOK_ps hR) b1
    have k2 : m_MT_c (MT_at (atM a p')) (atM a p') = some (PK w L p') := rr_c (MtOK_at (p' := p') hM) b1.1 b1.2.2
    unfold m_Rd_skipBlanks_b2 m_MT_blanks_b0
    refine q2IL (fun c => ?_) (fun c => ?_)
    · have e : PK w L p' = -1 := PK_end (by have := b1.2.2; have : (8192 : Int32) ≤ i := c; grind)
      rw [k2, e]
      exact q2S (r' := (1, atM a p')) (Or.inr (Or.inl ⟨Nat.succ_ne_zero _, Nat.succ_ne_zero _, p', b1, b2, rfl, rfl⟩))
    · rw [k2]
      refine q2Le k1 ?_
      by_cases hq : PK w L p' = 9 ∨ PK w L p' = 10 ∨ PK w L p' = 13 ∨ PK w L p' = 32
      · have hp : p' < L := PK_lt (w := w) (by rcases hq with h | h | h | h <;> rw [h] <;> decide)
        have go : o_p2 (m_Rd_skipBlanks_j39 n i (ps Rd p')) (m_MT_blanks_j52 m (atM a p')) (fun q q' => (q.1 = 0 ∧ q'.1 = 0 ∧ ∃ p', BP L p' ∧ p ≤ p' ∧ q.2.1 ≤ p' ∧ q.2.2 = ps Rd p' ∧ q'.2 = atM a p') ∨ (q.1 ≠ 0 ∧ q'.1 ≠ 0 ∧ ∃ p', BP L p' ∧ p ≤ p' ∧ q.2.2 = ps Rd p' ∧ q'.2 = atM a p') ∨ (q.1 = 0 ∧ q'.1 ≠ 0 ∧ ∀ m r, o_lp m (m_Rd_skipBlanks_b2 n) q.2 = some r → ∃ p', BP L p' ∧ p ≤ p' ∧ r.2.2 = ps Rd p' ∧ q'.2 = atM a p')) := by
          refine q2S (r := (0, i + 1, ps (ps Rd p') (p' + 1))) (r' := (0, atM (atM a p') (p' + 1))) (Or.inl ⟨rfl, rfl, p' + 1, BP_1 b1 hp, ?_, ?_, rfl, rfl⟩)
          · obtain ⟨c1, c2, c3⟩ := b1
            grind
          · obtain ⟨c1, c2, c3⟩ := b1
            show i + 1 ≤ p' + 1
            grind
        rcases hq with h | h | h | h <;> rw [h] <;> exact go
      · generalize PK w L p' = q at hq
        have n1 : ¬ q = 9 := fun e => hq (Or.inl e)
        have n2 : ¬ q = 10 := fun e => hq (Or.inr (Or.inl e))
        have n3 : ¬ q = 13 := fun e => hq (Or.inr (Or.inr (Or.inl e)))
        have n4 : ¬ q = 32 := fun e => hq (Or.inr (Or.inr (Or.inr e)))
        refine q2fL n1 (q2fL n2 (q2fL n3 (q2fL n4 ?_)))
        refine q2Re rfl (q2fR n4 (q2Re rfl (q2fR n1 (q2Re rfl (q2fR n2 (q2Re rfl (q2fR n3 ?_)))))))
        exact q2S (Or.inr (Or.inl ⟨Nat.succ_ne_zero _, Nat.succ_ne_zero _, p', b1, b2, rfl, rfl⟩))
  · exact ⟨p, hb, by grind, hb.1, by rw [← hR.2.2.1], by rw [← hM.2.1]⟩
  · rintro q q' ⟨p', b1, b2, b3, b4⟩
    refine q2IL (fun _ => q2S ⟨p', b1, b2, b3, b4⟩) (fun _ => q2S ⟨p', b1, b2, b3, b4⟩)
/-- what the class's blanks give, where the reference's are known -/
theorem rr_blankL {n m : Nat} {w : Nat → Int32} {L p : Int32} {Rd : SRd} {a a1 : SMT} (hR : RdOK w L p Rd) (hM : MtOK w L p a) (hb : BP L p) (e : m_MT_blanks m a = some a1) : ∀ R1, m_Rd_skipBlanks n Rd = some R1 → R1 = ps Rd (MT_at a1) ∧ a1 = atM a (MT_at a1) ∧ BP L (MT_at a1) ∧ p ≤ MT_at a1 := by
  intro R1 e1
  obtain ⟨p', b1, b2, b3, b4⟩ := rr_blanks (n := n) (m := m) hR hM hb R1 a1 e1 e
  subst b4
  exact ⟨b3, rfl, b1, b2⟩
theorem rr_bad {a : SMT} {x : Int32} (h : MT_wrong a = -1) : ∀ r, m_MT_bad x a = some r → r.1 = 0 ∧ MT_wrong r.2 = x := by
  intro r e
  unfold m_MT_bad at e
  rw [if_neg (by rw [h]; decide)] at e
  cases e
  exact ⟨rfl, rfl⟩
/-- refused by both: refuse at x, bad at x -/
theorem rr_fail {R : SRd} {a : SMT} {x : Int32} (h : MT_wrong a = -1) (h0 : 0 ≤ x) : o_p2 (m_Rd_refuse x R) (m_MT_bad x a) (fun r r' => r.1 = 0 ∧ r'.1 = 0 ∧ FL r.2 r'.2) := by
  intro r r' e e'
  unfold m_Rd_refuse at e
  cases e
  obtain ⟨a1, a2⟩ := rr_bad h r' e'
  exact ⟨rfl, a1, a2.symm, by rw [a2]; exact h0⟩
/-! Words -/
def RW (L p : Int32) (Rd : SRd) (a : SMT) (r : Int32 × SRd) (r' : Int32 × SMT) : Prop := (r.1 = 1 ∧ r'.1 = 1 ∧ ∃ p', BP L p' ∧ p ≤ p' ∧ r.2 = ps Rd p' ∧ r'.2 = atM a p') ∨ (r.1 = 0 ∧ r'.1 = 0 ∧ FL r.2 r'.2)
theorem rr_char {x1 : Nat} {i q : Int32} (e : m_JS_charAt x1 i = some q) : 0 ≤ q := by
  unfold m_JS_charAt at e
  obtain ⟨b, _, e⟩ := o_bd_some e
  by_cases hb : b = 0
  · exact absurd (o_tt hb e) (by intro h; cases h)
  · have e := o_ff hb e
    obtain ⟨c, e1, e⟩ := o_bd_some e
    obtain ⟨_, e⟩ := o_gd_some e
    cases e
    unfold m_JL_charAt at e1
    obtain ⟨_, e1⟩ := o_gd_some e1
    obtain ⟨_, e1⟩ := o_gd_some e1
    obtain ⟨_, e1⟩ := o_gd_some e1
    cases e1
    generalize (o_sa x1 i.toNatClampNeg &&& (255:Int32)).toUInt32 = u
    have h : (u % 65536).toNat < 65536 := by
      rw [UInt32.toNat_mod]
      exact Nat.mod_lt _ (by decide)
    rw [Int32.le_iff_toInt_le]
    show (0 : Int) ≤ ((u % 65536).toBitVec).toInt
    have h : (u % 65536).toBitVec.toNat < 65536 := h
    rw [BitVec.toInt_eq_toNat_cond, if_pos (by omega)]
    omega
theorem rr_word {n m : Nat} {s : Nat} {w : Nat → Int32} {L p : Int32} {Rd : SRd} {a : SMT} (hR : RdOK w L p Rd) (hM : MtOK w L p a) (hb : BP L p) :
    o_p2 (m_Rd_readWord n s Rd) (o_bd (o_lp m (m_MT_word_b10 m s) ((0:Int32), a)) fun q5 => if q5.1 = 1 then o_bd (m_MT_bad (MT_at q5.2.2) q5.2.2) fun q6 => o_gd (o_zb q6.1) <| some (q6.1, q6.2) else some ((1:Int32), q5.2.2)) (RW L p Rd a) := by
  unfold m_Rd_readWord
  refine q2B (q2lp (P := fun q q' => ∃ i p', BP L p' ∧ p ≤ p' ∧ q.2 = (i, ps Rd p') ∧ q'.2 = (i, atM a p') ∧ (q.1 = 1 ↔ q'.1 = 1)) (fun z z' => ∃ i p', BP L p' ∧ p ≤ p' ∧ z = (i, ps Rd p') ∧ z' = (i, atM a p')) ?_ n m _ _ ?_) ?_
  · rintro z z' ⟨i, p', b1, b2, rfl, rfl⟩
    have k1 : m_Rd_peek (ps Rd p') = some (PK w L p') := rr_peek (RdOK_ps hR) b1
    have k2 : m_MT_c (MT_at (atM a p')) (atM a p') = some (PK w L p') := rr_c (MtOK_at (p' := p') hM) b1.1 b1.2.2
    unfold m_Rd_readWord_b2 m_MT_word_b10
    refine q2Q (fun l _ => q2IB Iff.rfl (fun c => q2S (Or.inr (Or.inl ⟨Nat.succ_ne_zero _, Nat.succ_ne_zero _, i, p', b1, b2, rfl, rfl, ⟨fun z => absurd z (by simp), fun z => absurd z (by simp)⟩⟩))) (fun c => ?_))
    refine q2Le k1 (q2Re k2 (q2Q (fun c2 e2 => q2IB Iff.rfl (fun c3 => ?_) (fun c3 => ?_))))
    · have hp : p' < L := PK_lt (w := w) (by rw [c3]; have := rr_char e2; grind)
      refine q2NL (q2NR (q2S (Or.inl ⟨rfl, rfl, i + 1, p' + 1, BP_1 b1 hp, ?_, rfl, rfl⟩)))
      obtain ⟨c1, c2, c3⟩ := b1
      grind
    · exact q2S (Or.inr (Or.inl ⟨Nat.succ_ne_zero _, Nat.succ_ne_zero _, i, p', b1, b2, rfl, rfl, Iff.rfl⟩))
  · exact ⟨0, p, hb, by grind, by rw [← hR.2.2.1], by rw [← hM.2.1]⟩
  · rintro ⟨k, i', R⟩ ⟨k', z'⟩ ⟨i, p', b1, b2, b3, b4, b5⟩
    replace b3 : (i', R) = (i, ps Rd p') := b3
    replace b4 : z' = (i, atM a p') := b4
    replace b5 : k = 1 ↔ k' = 1 := b5
    cases b3
    subst b4
    refine q2IB b5 (fun _ => ?_) (fun _ => q2S (Or.inl ⟨rfl, rfl, p', b1, b2, rfl, rfl⟩))
    refine q2B (rr_fail (a := atM a p') hM.2.2.1 b1.1) ?_
    rintro r r' ⟨f1, f2, f3⟩
    exact q2GL (fun _ => q2GR (fun _ => q2S (Or.inr ⟨f1, f2, f3⟩)))
