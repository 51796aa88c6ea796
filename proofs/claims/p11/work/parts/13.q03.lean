/-! Strings: characters of several octets -/
theorem rr_or16 {a b : Int32} (ha0 : 0 ≤ a) (ha : a ≤ 65535) (hb0 : 0 ≤ b) (hb : b ≤ 65535) : 0 ≤ a ||| b ∧ a ||| b ≤ 65535 := by
  have e1 := o_nneg ha0
  have e2 := o_nneg hb0
  have k1 := Int32.le_iff_toInt_le.mp ha
  have k2 := Int32.le_iff_toInt_le.mp hb
  have z : (65535 : Int32).toInt = 65535 := rfl
  rw [z] at k1 k2
  have t : (a.toBitVec ||| b.toBitVec).toNat < 65536 := by
    rw [BitVec.toNat_or]
    exact Nat.or_lt_two_pow (n := 16) (by omega) (by omega)
  have e := BitVec.toInt_eq_toNat_cond (a.toBitVec ||| b.toBitVec)
  constructor
  · rw [Int32.le_iff_toInt_le]
    show (0:Int) ≤ (a.toBitVec ||| b.toBitVec).toInt
    split at e <;> omega
  · rw [Int32.le_iff_toInt_le, z]
    show (a.toBitVec ||| b.toBitVec).toInt ≤ 65535
    split at e <;> omega
theorem rr_fol {x : Int32} (h0 : 128 ≤ x) (h1 : x ≤ 191) : 0 ≤ x &&& 63 ∧ x &&& 63 ≤ 63 := by
  have h : ∀ k : Nat, k < 256 → 0 ≤ (Int32.ofNat k) &&& 63 ∧ (Int32.ofNat k) &&& 63 ≤ 63 := by decide +kernel
  have := h x.toNatClampNeg (o_tncL (m := 256) rfl (by grind) (by grind))
  rwa [rr_ofN (by grind)] at this
theorem rr_sh6 {c : Int32} (h0 : 0 ≤ c) (h1 : c ≤ 1023) : 0 ≤ c <<< ((6:Int32) &&& 31) ∧ c <<< ((6:Int32) &&& 31) ≤ 65472 ∧ (c ≤ 15 → c <<< ((6:Int32) &&& 31) ≤ 960) ∧ (c ≤ 31 → c <<< ((6:Int32) &&& 31) ≤ 1984) ∧ (2 ≤ c → 128 ≤ c <<< ((6:Int32) &&& 31)) := by
  have h : ∀ k : Nat, k < 1024 → 0 ≤ (Int32.ofNat k) <<< ((6:Int32) &&& 31) ∧ (Int32.ofNat k) <<< ((6:Int32) &&& 31) ≤ 65472 ∧ ((Int32.ofNat k) ≤ 15 → (Int32.ofNat k) <<< ((6:Int32) &&& 31) ≤ 960) ∧ ((Int32.ofNat k) ≤ 31 → (Int32.ofNat k) <<< ((6:Int32) &&& 31) ≤ 1984) ∧ (2 ≤ (Int32.ofNat k) → 128 ≤ (Int32.ofNat k) <<< ((6:Int32) &&& 31)) := by decide +kernel
  have := h c.toNatClampNeg (o_tncL (m := 1024) rfl h0 (by grind))
  rwa [rr_ofN h0] at this
theorem rr_orG {a b : Int32} (ha0 : 0 ≤ a) (hb0 : 0 ≤ b) : a ≤ a ||| b := by
  have e1 := o_nneg ha0
  have e2 := o_nneg hb0
  have t : (a.toBitVec ||| b.toBitVec).toNat < 2147483648 := by
    rw [BitVec.toNat_or]
    exact Nat.or_lt_two_pow (n := 31) (by omega) (by omega)
  have g : a.toBitVec.toNat ≤ (a.toBitVec ||| b.toBitVec).toNat := by
    rw [BitVec.toNat_or]
    exact Nat.left_le_or
  have e := BitVec.toInt_eq_toNat_cond (a.toBitVec ||| b.toBitVec)
  rw [Int32.le_iff_toInt_le]
  show a.toInt ≤ (a.toBitVec ||| b.toBitVec).toInt
  split at e <;> omega
theorem rr_or10 {a b : Int32} (ha0 : 0 ≤ a) (ha : a ≤ 1023) (hb0 : 0 ≤ b) (hb : b ≤ 1023) : a ||| b ≤ 1023 := by
  have e1 := o_nneg ha0
  have e2 := o_nneg hb0
  have k1 := Int32.le_iff_toInt_le.mp ha
  have k2 := Int32.le_iff_toInt_le.mp hb
  have z : (1023 : Int32).toInt = 1023 := rfl
  rw [z] at k1 k2
  have t : (a.toBitVec ||| b.toBitVec).toNat < 1024 := by
    rw [BitVec.toNat_or]
    exact Nat.or_lt_two_pow (n := 10) (by omega) (by omega)
  exact o_leN (k := 1023) rfl (Or.inl (Nat.le_of_lt_succ t))
theorem rr_or11 {a b : Int32} (ha0 : 0 ≤ a) (ha : a ≤ 2047) (hb0 : 0 ≤ b) (hb : b ≤ 2047) : a ||| b ≤ 2047 := by
  have e1 := o_nneg ha0
  have e2 := o_nneg hb0
  have k1 := Int32.le_iff_toInt_le.mp ha
  have k2 := Int32.le_iff_toInt_le.mp hb
  have z : (2047 : Int32).toInt = 2047 := rfl
  rw [z] at k1 k2
  have t : (a.toBitVec ||| b.toBitVec).toNat < 2048 := by
    rw [BitVec.toNat_or]
    exact Nat.or_lt_two_pow (n := 11) (by omega) (by omega)
  exact o_leN (k := 2047) rfl (Or.inl (Nat.le_of_lt_succ t))
/-- what is known of a character of t octets more, after i of them -/
def UB (t i c : Int32) : Prop := (t = 1 ∧ ((i = 0 ∧ 2 ≤ c ∧ c ≤ 31) ∨ (i = 1 ∧ 128 ≤ c ∧ c ≤ 2047))) ∨ (t = 2 ∧ ((i = 0 ∧ 0 ≤ c ∧ c ≤ 15) ∨ (i = 1 ∧ 0 ≤ c ∧ c ≤ 1023) ∨ (i = 2 ∧ 0 ≤ c ∧ c ≤ 65535))) ∨ (t = 3 ∧ 0 ≤ i ∧ i ≤ 3)
theorem UB_s {t i c x : Int32} (h : UB t i c) (hi : ¬ t ≤ i) (h0 : 128 ≤ x) (h1 : x ≤ 191) : UB t (i + 1) (c <<< ((6:Int32) &&& 31) ||| (x &&& 63)) := by
  have f := rr_fol h0 h1
  rcases h with ⟨rfl, ⟨rfl, a, b⟩ | ⟨rfl, a, b⟩⟩ | ⟨rfl, ⟨rfl, a, b⟩ | ⟨rfl, a, b⟩ | ⟨rfl, a, b⟩⟩ | ⟨rfl, a, b⟩
  · have s := rr_sh6 (c := c) (by grind) (by grind)
    have g := rr_orG (a := c <<< ((6:Int32) &&& 31)) (b := x &&& 63) s.1 f.1
    exact Or.inl ⟨rfl, Or.inr ⟨rfl, by have := s.2.2.2.2 a; grind, rr_or11 s.1 (by have := s.2.2.2.1 b; grind) f.1 (by grind)⟩⟩
  · exact absurd (Int32.le_refl 1) hi
  · have s := rr_sh6 (c := c) (by grind) (by grind)
    have g := rr_orG (a := c <<< ((6:Int32) &&& 31)) (b := x &&& 63) s.1 f.1
    exact Or.inr (Or.inl ⟨rfl, Or.inr (Or.inl ⟨rfl, by grind, rr_or10 s.1 (by have := s.2.2.1 b; grind) f.1 (by grind)⟩)⟩)
  · have s := rr_sh6 (c := c) (by grind) (by grind)
    exact Or.inr (Or.inl ⟨rfl, Or.inr (Or.inr ⟨rfl, rr_or16 s.1 (by grind) f.1 (by grind)⟩)⟩)
  · exact absurd (Int32.le_refl 2) hi
  · exact Or.inr (Or.inr ⟨rfl, by grind, by grind⟩)
theorem UB_t {t i c : Int32} (h : UB t i c) : 0 ≤ i ∧ i ≤ t ∧ t ≤ 3 := by
  rcases h with ⟨rfl, ⟨rfl, a, b⟩ | ⟨rfl, a, b⟩⟩ | ⟨rfl, ⟨rfl, a, b⟩ | ⟨rfl, a, b⟩ | ⟨rfl, a, b⟩⟩ | ⟨rfl, a, b⟩
  · decide
  · decide
  · decide
  · decide
  · decide
  · exact ⟨a, b, by decide⟩
theorem rr_foll {x : Int32} : m_SJ_utf8Follows x = some (if x < 128 then 0 else if 191 < x then 0 else 1) := by
  unfold m_SJ_utf8Follows
  by_cases h1 : x < 128
  · rw [if_pos h1, if_pos h1]
  · rw [if_neg h1, if_neg h1]
    by_cases h2 : 191 < x
    · rw [if_pos h2, if_pos h2]
    · rw [if_neg h2, if_neg h2]
/-- legal, as the reference says it -/
theorem rr_legal {t c : Int32} (h : UB t t c) : m_SJ_utf8Legal c t = some (if (t = 2 ∧ (c < 2048 ∨ (55296 ≤ c ∧ c ≤ 57343))) ∨ (t = 3 ∧ (c < 65536 ∨ 1114111 < c)) then 0 else 1) := by
  unfold m_SJ_utf8Legal m_SJ_utf8Legal_j30
  rcases h with ⟨rfl, ⟨k, a, b⟩ | ⟨k, a, b⟩⟩ | ⟨rfl, ⟨k, a, b⟩ | ⟨k, a, b⟩ | ⟨k, a, b⟩⟩ | ⟨rfl, a, b⟩
  · exact absurd k (by decide)
  · rw [if_neg (by decide), if_pos rfl, if_neg (by grind), if_neg (by grind), rr_surr]
    show (if (if c < 55296 then (0:Int32) else if 57343 < c then 0 else 1) = 0 then some (1:Int32) else some 0) = _
    rw [if_pos (show c < 55296 by grind), if_pos rfl, if_neg]
    rintro (⟨h, _⟩ | ⟨h, _⟩)
    · exact absurd h (by decide)
    · exact absurd h (by decide)
  · exact absurd k (by decide)
  · exact absurd k (by decide)
  · rw [if_neg (by decide), if_neg (by decide), if_pos rfl]
    by_cases c1 : c < 2048
    · rw [if_pos c1, if_pos (Or.inl ⟨rfl, Or.inl c1⟩)]
    · rw [if_neg c1, if_neg (by grind), rr_surr]
      show (if (if c < 55296 then (0:Int32) else if 57343 < c then 0 else 1) = 0 then some (1:Int32) else some 0) = _
      by_cases c2 : 55296 ≤ c ∧ c ≤ 57343
      · rw [if_neg (show ¬ c < 55296 by grind), if_neg (show ¬ 57343 < c by grind), if_neg (by decide), if_pos (Or.inl ⟨rfl, Or.inr c2⟩)]
      · have e : (if c < 55296 then (0:Int32) else if 57343 < c then 0 else 1) = 0 := by
          by_cases d : c < 55296
          · rw [if_pos d]
          · rw [if_neg d, if_pos (by grind)]
        rw [if_pos e, if_neg]
        rintro (⟨_, h⟩ | ⟨h, _⟩)
        · grind
        · exact absurd h (by decide)
  · rw [if_neg (by decide), if_neg (by decide), if_neg (by decide)]
    by_cases c1 : c < 65536
    · rw [if_pos c1, if_pos (Or.inr ⟨rfl, Or.inl c1⟩)]
    · rw [if_neg c1]
      by_cases c2 : 1114111 < c
      · rw [if_pos c2, if_pos (Or.inr ⟨rfl, Or.inr c2⟩)]
      · rw [if_neg c2, rr_surr]
        show (if (if c < 55296 then (0:Int32) else if 57343 < c then 0 else 1) = 0 then some (1:Int32) else some 0) = _
        rw [if_neg (show ¬ c < 55296 by grind), if_pos (show 57343 < c by grind), if_pos rfl, if_neg]
        rintro (⟨h, _⟩ | ⟨_, h⟩)
        · exact absurd h (by decide)
        · grind
theorem rr_tail {n m : Nat} {w : Nat → Int32} {L p t hd : Int32} {Rd : SRd} {a : SMT} (hR : RdOK w L p Rd) (hM : MtOK w L p a) (hb : BP L p) (hp : p < L) (hU : UB t 0 hd) (ht : t ≠ 0) :
    o_p2 (o_bd (o_lp n (m_Rd_readCharacter_b54 n p t) (hd, (0:Int32), ps Rd (p + 1))) fun q7 => if q7.1 = 1 then o_bd (m_Rd_refuse p q7.2.2.2) fun q8 => some ((-1:Int32), q8.2) else o_bd (m_SJ_utf8Legal q7.2.1 t) fun q9 => if q9 = 0 then o_bd (m_Rd_refuse p q7.2.2.2) fun q10 => some ((-1:Int32), q10.2) else some (q7.2.1, q7.2.2.2)) (m_MT_wide_j90 m p t hd a) (EC L p Rd a) := by
  have hp0 := hb.1
  have hL := hb.2.2
  have hw : MT_wrong a = -1 := hM.2.2.1
  unfold m_MT_wide_j90
  refine q2fR ht (q2B (q2lp (P := fun q q' => (q.1 = 1 ∧ q'.1 = 1) ∨ (q.1 = 2 ∧ q'.1 = 2 ∧ q.2 = (q'.2.1, t, ps Rd (p + (t + 1))) ∧ UB t t q'.2.1 ∧ BP L (p + (t + 1)))) (fun z z' => ∃ c i, z = (c, i, ps Rd (p + (i + 1))) ∧ z' = (c, i + 1) ∧ UB t i c ∧ BP L (p + (i + 1))) ?_ n m _ _ ?_) ?_)
  · rintro z z' ⟨c, i, rfl, rfl, h1, h2⟩
    obtain ⟨u1, u2, u3⟩ := UB_t h1
    have k1 : m_Rd_peek (ps Rd (p + (i + 1))) = some (PK w L (p + (i + 1))) := rr_peek (RdOK_ps hR) h2
    have k2 : m_MT_c (p + (i + 1)) a = some (PK w L (p + (i + 1))) := rr_c hM h2.1 h2.2.2
    unfold m_Rd_readCharacter_b54 m_MT_wide_b105
    refine q2IB (show t ≤ i ↔ t < i + 1 by grind) (fun c1 => ?_) (fun c1 => ?_)
    · have e : i = t := by have : t ≤ i := c1; grind
      subst e
      exact q2S (Or.inr (Or.inl ⟨Nat.succ_ne_zero _, Nat.succ_ne_zero _, Or.inr ⟨rfl, rfl, rfl, h1, h2⟩⟩))
    refine q2Le k1 (q2Re k2 (q2Le rr_foll (q2Re rr_inn (q2IB Iff.rfl (fun _ => ?_) (fun c2 => ?_)))))
    · exact q2S (Or.inr (Or.inl ⟨Nat.succ_ne_zero _, Nat.succ_ne_zero _, Or.inl ⟨rfl, rfl⟩⟩))
    have g1 : ¬ PK w L (p + (i + 1)) < 128 := by
      intro h
      rw [if_pos h] at c2
      exact c2 rfl
    have g2 : ¬ 191 < PK w L (p + (i + 1)) := by
      intro h
      rw [if_neg g1, if_pos h] at c2
      exact c2 rfl
    have hp1 : p + (i + 1) < L := PK_lt (w := w) (by intro e; rw [e] at g1; exact g1 (by decide))
    have b1 := BP_1 h2 hp1
    have ea : p + (i + 1) + 1 = p + (i + 1 + 1) := by rw [Int32.add_assoc]
    rw [ea] at b1
    refine q2Re k2 (q2NL (q2NL (q2NR (q2NR (q2S (Or.inl ⟨rfl, rfl, _, i + 1, ?_, rfl, UB_s h1 c1 (by grind) (by grind), b1⟩))))))
    show (_, i + 1, ps (ps Rd (p + (i + 1))) (p + (i + 1) + 1)) = _
    rw [ea]
  · refine ⟨hd, 0, ?_, rfl, hU, ?_⟩
    · rw [Int32.zero_add]
    · rw [Int32.zero_add]; exact BP_1 hb hp
  · rintro ⟨k, c, i, R⟩ ⟨k', c', i'⟩ h
    have hf : o_p2 (o_bd (m_Rd_refuse p R) fun q8 => some ((-1:Int32), q8.2)) (o_bd (m_MT_bad p a) fun q6 => o_gd (o_zb q6.1) <| some (q6.1, q6.2)) (EC L p Rd a) := by
      unfold m_Rd_refuse
      exact rr_badC hw hp0 rfl
    rcases h with ⟨e1, e2⟩ | ⟨e1, e2, e3, e4, e5⟩
    · replace e1 : k = 1 := e1
      replace e2 : k' = 1 := e2
      subst e1 e2
      exact q2tL rfl (q2tR rfl hf)
    · replace e1 : k = 2 := e1
      replace e2 : k' = 2 := e2
      replace e3 : (c, i, R) = (c', t, ps Rd (p + (t + 1))) := e3
      replace e4 : UB t t c' := e4
      subst e1 e2
      cases e3
      obtain ⟨u1, u2, u3⟩ := UB_t e4
      have ut : 0 < t := by have := Int32.le_of_lt (show (0:Int32) < 1 by decide); grind
      refine q2fL (by show ¬ 2 = 1; decide) (q2fR (by show ¬ 2 = 1; decide) (q2Le (rr_legal e4) ?_))
      unfold m_MT_wide_j187 m_MT_wide_j204 m_MT_wide_j210
      have good : c ≠ -1 → o_p2 (some (c, ps Rd (p + (t + 1)))) (o_bd (m_MT_put c p (atM a (MT_at a + (t + 1)))) fun q7 => o_gd (o_zb q7.1) <| some (q7.1, q7.2)) (EC L p Rd a) := fun hc => rr_put (p' := p + (t + 1)) hc e5 (by grind) rfl (by rw [hM.2.1])
      by_cases t2 : t = 2
      · subst t2
        refine q2tR rfl ?_
        have bd : 0 ≤ c ∧ c ≤ 65535 := by
          rcases e4 with ⟨h, _⟩ | ⟨_, ⟨h, _⟩ | ⟨h, _⟩ | ⟨_, h⟩⟩ | ⟨h, _⟩
          · exact absurd h (by decide)
          · exact absurd h (by decide)
          · exact absurd h (by decide)
          · exact h
          · exact absurd h (by decide)
        by_cases c1 : c < 2048
        · exact q2tR c1 (q2tL (if_pos (Or.inl ⟨rfl, Or.inl c1⟩)) hf)
        · refine q2fR c1 ?_
          by_cases c2 : 55296 ≤ c ∧ c ≤ 57343
          · exact q2Re (rr_in1 c2.1 c2.2) (q2fR (by decide) (q2tL (if_pos (Or.inl ⟨rfl, Or.inr c2⟩)) hf))
          · refine q2Re (rr_in0 (by grind)) (q2tR rfl (q2fR (by decide) (q2fL ?_ (good (by grind)))))
            rw [if_neg]
            · decide
            · rintro (⟨_, h⟩ | ⟨h, _⟩)
              · grind
              · exact absurd h (by decide)
      · refine q2fR t2 ?_
        by_cases t3 : t = 3
        · subst t3
          refine q2tR rfl ?_
          by_cases c1 : c < 65536 ∨ 1114111 < c
          · exact q2Re (rr_in0 c1) (q2tR rfl (q2tL (if_pos (Or.inr ⟨rfl, c1⟩)) hf))
          · refine q2Re (rr_in1 (by grind) (by grind)) (q2fR (by decide) (q2fL ?_ (good (by grind))))
            rw [if_neg]
            · decide
            · rintro (⟨h, _⟩ | ⟨_, h⟩)
              · exact absurd h (by decide)
              · exact c1 h
        · refine q2fR t3 (q2fL ?_ (good ?_))
          · rw [if_neg]
            · decide
            · rintro (⟨h, _⟩ | ⟨h, _⟩)
              · exact t2 h
              · exact t3 h
          · rcases e4 with ⟨_, ⟨_, h⟩ | ⟨_, h⟩⟩ | ⟨h, _⟩ | ⟨h, _⟩
            · grind
            · grind
            · exact absurd h t2
            · exact absurd h t3
theorem rr_head {q : Int32} (h0 : 128 ≤ q) (h1 : q ≤ 255) : (194 ≤ q → q ≤ 223 → 2 ≤ q &&& 31 ∧ q &&& 31 ≤ 31) ∧ (0 ≤ q &&& 15 ∧ q &&& 15 ≤ 15) := by
  have h : ∀ k : Nat, k < 256 → (194 ≤ (Int32.ofNat k) → (Int32.ofNat k) ≤ 223 → 2 ≤ (Int32.ofNat k) &&& 31 ∧ (Int32.ofNat k) &&& 31 ≤ 31) ∧ (0 ≤ (Int32.ofNat k) &&& 15 ∧ (Int32.ofNat k) &&& 15 ≤ 15) := by decide +kernel
  have := h q.toNatClampNeg (o_tncL (m := 256) rfl (by grind) (by grind))
  rwa [rr_ofN (by grind)] at this
theorem rr_tl {x : Int32} : m_SJ_utf8Tail x = some (if 0 ≤ x ∧ x < 128 then 0 else if 194 ≤ x ∧ x ≤ 223 then 1 else if 224 ≤ x ∧ x ≤ 239 then 2 else if 240 ≤ x ∧ x ≤ 244 then 3 else -1) := by
  unfold m_SJ_utf8Tail m_SJ_utf8Tail_j13 m_SJ_utf8Tail_j29 m_SJ_utf8Tail_j45
  (repeat' split) <;> first | rfl | (exfalso; grind)
/-- a character of two octets or more -/
theorem rr_wide {n m : Nat} {w : Nat → Int32} {L p : Int32} {Rd : SRd} {a : SMT} (hR : RdOK w L p Rd) (hM : MtOK w L p a) (hb : BP L p) (hq : 128 ≤ PK w L p) : o_p2 (m_Rd_readCharacter n Rd) (m_MT_wide m p a) (EC L p Rd a) := by
  have hp : p < L := PK_lt (w := w) (by intro e; rw [e] at hq; exact absurd hq (by decide))
  have hw : MT_wrong a = -1 := hM.2.2.1
  have hq2 : PK w L p ≤ 255 := PK_rng.2
  unfold m_Rd_readCharacter m_MT_wide
  rw [hR.2.2.1]
  refine q2NL (q2Le (rr_peek hR hb) (q2Re (rr_c hM hb.1 hb.2.2) (q2Le rr_tl ?_)))
  generalize PK w L p = q at hq hq2
  refine q2fL (by grind) ?_
  unfold m_MT_wide_j24 m_MT_wide_j42 m_MT_wide_j61 m_SJ_utf8Head
  have hh := rr_head hq hq2
  have n0 : ¬ (0 ≤ q ∧ q < 128) := by grind
  rw [if_neg n0]
  by_cases c1 : 194 ≤ q ∧ q ≤ 223
  · rw [if_pos c1]
    refine q2fL (by decide) (q2fR (by grind) (q2fR (by grind) (q2tR rfl (q2Le (if_neg (by decide)) ?_))))
    exact rr_tail hR hM hb hp (Or.inl ⟨rfl, Or.inl ⟨rfl, hh.1 c1.1 c1.2⟩⟩) (by decide)
  rw [if_neg c1]
  by_cases c2 : 224 ≤ q ∧ q ≤ 239
  · rw [if_pos c2]
    refine q2fL (by decide) (q2fR (by grind) (q2tR (by grind) (q2fR (by grind) (q2fR (by grind) (q2fR (by decide) (q2tR rfl (q2Le (if_neg (by decide)) ?_)))))))
    exact rr_tail hR hM hb hp (Or.inr (Or.inl ⟨rfl, Or.inl ⟨rfl, hh.2⟩⟩)) (by decide)
  rw [if_neg c2]
  by_cases c3 : 240 ≤ q ∧ q ≤ 244
  · rw [if_pos c3]
    refine q2fL (by decide) (q2fR (by grind) (q2tR (by grind) (q2fR (by grind) (q2tR (by grind) (q2fR (by grind) (q2fR (by grind) (q2fR (by decide) (q2fR (by decide) (q2Le (if_neg (by decide)) ?_)))))))))
    exact rr_tail hR hM hb hp (Or.inr (Or.inr ⟨rfl, by decide, by decide⟩)) (by decide)
  rw [if_neg c3]
  refine q2tL rfl ?_
  unfold m_Rd_readCharacter_j26 m_Rd_refuse
  have fin : o_p2 (o_bd (some ((0:Int32), Rd_mk (Rd_words Rd) (Rd_wordCount Rd) (Rd_position Rd) (Rd_limit Rd) p)) fun q3 => some ((-1:Int32), q3.2)) (m_MT_wide_j90 m p 0 (q &&& 7) a) (EC L p Rd a) := by
    unfold m_MT_wide_j90
    exact q2tR rfl (rr_badC hw hb.1 rfl)
  by_cases d1 : q < 194
  · exact q2tR d1 (q2tR (by grind) (q2tR (by grind) (q2fR (by decide) (q2fR (by decide) fin))))
  · refine q2fR d1 (q2tR (by grind) (q2fR (by grind) (q2tR (by grind) (q2fR (by grind) (q2tR (by grind) (q2fR (by decide) (q2fR (by decide) fin)))))))
theorem rr_ascii {n : Nat} {w : Nat → Int32} {L p : Int32} {Rd : SRd} (hR : RdOK w L p Rd) (hb : BP L p) (h0 : 32 ≤ PK w L p) (h1 : PK w L p < 128) : ∀ r, m_Rd_readCharacter n Rd = some r → r = (PK w L p, ps Rd (p + 1)) := by
  intro r e
  unfold m_Rd_readCharacter at e
  rw [hR.2.2.1] at e
  replace e : o_bd (m_Rd_peek Rd) _ = some r := e
  rw [rr_peek hR hb] at e
  replace e : o_bd (m_SJ_utf8Tail (PK w L p)) _ = some r := e
  rw [rr_tl, if_pos ⟨by grind, h1⟩] at e
  have e := o_ff (show ¬ PK w L p < 32 by grind) e
  have e := o_ff (show ¬ (0:Int32) = -1 by decide) e
  unfold m_SJ_utf8Head at e
  rw [if_pos rfl] at e
  obtain ⟨q7, e1, e⟩ := o_bd_some (show o_bd (o_lp n (m_Rd_readCharacter_b54 n p 0) (PK w L p, (0:Int32), ps Rd (p + 1))) _ = some r from e)
  have hq7 : q7 = (2, PK w L p, 0, ps Rd (p + 1)) := by
    cases n with
    | zero => cases e1
    | succ k =>
      obtain ⟨q, f1, f2⟩ := o_bd_some (show o_bd (m_Rd_readCharacter_b54 (k + 1) p 0 (PK w L p, (0:Int32), ps Rd (p + 1))) _ = some q7 from e1)
      have f3 : some (2, PK w L p, (0:Int32), ps Rd (p + 1)) = some q := by
        rw [← f1]
        unfold m_Rd_readCharacter_b54
        rw [if_pos (show (0:Int32) ≤ 0 by decide)]
      cases f3
      cases f2
      rfl
  subst hq7
  have e := o_ff (show ¬ (2 : Nat) = 1 by decide) e
  unfold m_SJ_utf8Legal at e
  rw [if_pos rfl] at e
  replace e : some (PK w L p, ps Rd (p + 1)) = some r := e
  cases e
  rfl
theorem rr_ctl {n : Nat} {w : Nat → Int32} {L p : Int32} {Rd : SRd} (hR : RdOK w L p Rd) (hb : BP L p) (h0 : PK w L p < 32) : ∀ r, m_Rd_readCharacter n Rd = some r → r.1 = -1 ∧ Rd_wrongPlace r.2 = p := by
  intro r e
  unfold m_Rd_readCharacter at e
  rw [hR.2.2.1] at e
  replace e : o_bd (m_Rd_peek Rd) _ = some r := e
  rw [rr_peek hR hb] at e
  replace e : o_bd (m_SJ_utf8Tail (PK w L p)) _ = some r := e
  rw [rr_tl] at e
  have e := o_tt h0 e
  unfold m_Rd_readCharacter_j26 m_Rd_refuse at e
  cases e
  exact ⟨rfl, rfl⟩
