/-! Numbers: the exponent, the end -/
def XB (i e : Int32) : Prop := i ≤ 3 → 0 ≤ e ∧ ((i = 0 ∧ e ≤ 0) ∨ (i = 1 ∧ e ≤ 9) ∨ (i = 2 ∧ e ≤ 99) ∨ (i = 3 ∧ e ≤ 999))
theorem XB_s {i e q : Int32} (i0 : 0 ≤ i) (h : XB i e) (h3 : i < 3) (h0 : 48 ≤ q) (h1 : q ≤ 57) : XB (i + 1) (e * 10 + q - 48) := by
  intro _
  obtain ⟨a, b⟩ := h (by grind)
  rcases b with ⟨rfl, b⟩ | ⟨rfl, b⟩ | ⟨rfl, b⟩ | ⟨rfl, b⟩
  · exact ⟨by grind, Or.inr (Or.inl ⟨rfl, by grind⟩)⟩
  · exact ⟨by grind, Or.inr (Or.inr (Or.inl ⟨rfl, by grind⟩))⟩
  · exact ⟨by grind, Or.inr (Or.inr (Or.inr ⟨rfl, by grind⟩))⟩
  · exact absurd h3 (by first | decide | (dsimp only <;> decide))
theorem rr_expo {n m : Nat} {x2 x3 x4 x5 x9 : Int32} {w : Nat → Int32} {L P : Int32} {Rd : SRd} {a : SMT} (hR : RdOK w L P Rd) (hM : MtOK w L P a) (hb : BP L P) :
    o_p2 (o_lp n (m_Rd_readExponent_b4 n) ((0:Int32), (0:Int32), Rd)) (o_lp m (m_MT_number_b396 m x2 x3 x4 x5 x9) ((0:Int32), (0:Int32), a)) (fun q q' => ∃ k, 0 ≤ k ∧ BP L (P + k) ∧ q.2.2.2 = ps Rd (P + k) ∧ q'.2.2.1 = k ∧ q'.2.2.2 = atM a (P + k) ∧ (k ≤ 3 → q.2.1 = q'.2.1) ∧ (k = 0 ↔ ¬ (48 ≤ PK w L P ∧ PK w L P ≤ 57))) := by
  refine q2lp (fun z z' => ∃ k, 0 ≤ k ∧ k ≤ P + k ∧ BP L (P + k) ∧ z.2.1 = k ∧ z.2.2 = ps Rd (P + k) ∧ z'.2.1 = k ∧ z'.2.2 = atM a (P + k) ∧ (k ≤ 3 → z.1 = z'.1) ∧ XB k z'.1 ∧ (k ≠ 0 → 48 ≤ PK w L P ∧ PK w L P ≤ 57)) ?_ n m _ _ ?_
  · rintro ⟨e, k', Rd'⟩ ⟨e', k'', a'⟩ ⟨k, i0, i1, i2, i3, i4, i5, i6, i7, i8, i9⟩
    replace i3 : k' = k := i3
    replace i4 : Rd' = ps Rd (P + k) := i4
    replace i5 : k'' = k := i5
    replace i6 : a' = atM a (P + k) := i6
    replace i7 : k ≤ 3 → e = e' := i7
    replace i8 : XB k e' := i8
    subst i3 i4 i5 i6
    have k1 : m_Rd_peek (ps Rd (P + k'')) = some (PK w L (P + k'')) := rr_peek (RdOK_ps hR) i2
    have k2 : m_MT_c (MT_at (atM a (P + k''))) (atM a (P + k'')) = some (PK w L (P + k'')) := rr_c (MtOK_at (p' := P + k'') hM) i2.1 i2.2.2
    unfold m_Rd_readExponent_b4 m_MT_number_b396
    have e1 : P + k'' + 1 = P + (k'' + 1) := Int32.add_assoc _ _ _
    by_cases hd : 48 ≤ PK w L (P + k'') ∧ PK w L (P + k'') ≤ 57
    · have hp : P + k'' < L := PK_lt (w := w) (by grind)
      have b := BP_1 i2 hp
      rw [e1] at b
      have kk : 0 ≤ k'' + 1 ∧ k'' + 1 ≤ P + (k'' + 1) ∧ k'' + 1 ≠ 0 ∧ k'' + 1 ≤ 8192 := by
        obtain ⟨t1, t2, t3⟩ := b
        obtain ⟨t4, t5, t6⟩ := i2
        have := hb.1
        grind
      have first : 48 ≤ PK w L P ∧ PK w L P ≤ 57 := by
        by_cases z : k'' = 0
        · subst z
          rw [Int32.add_zero] at hd
          exact hd
        · exact i9 z
      refine q2fL (show ¬ (8192:Int32) ≤ k'' by have := i2.2.1; have := i2.2.2; grind) (q2Le k1 (q2Le (rr_isd1 hd) (q2fL (by first | decide | (dsimp only <;> decide)) (q2Re k2 (q2Re (rr_ind1 hd) (q2fR (by first | decide | (dsimp only <;> decide)) ?_))))))
      unfold m_Rd_readExponent_j40 m_MT_number_j440
      have out : ∀ (f f' : Int32), (k'' + 1 ≤ 3 → f = f') → XB (k'' + 1) f' → o_p2 (o_nm (k'' + (1:Int32)) fun x2_50 => some (0, f, x2_50, (Rd_mk (Rd_words (ps Rd (P + k''))) (Rd_wordCount (ps Rd (P + k''))) ((Rd_position (ps Rd (P + k''))) + (1:Int32)) (Rd_limit (ps Rd (P + k''))) (Rd_wrongPlace (ps Rd (P + k'')))))) (o_nm (k'' + (1:Int32)) fun x8_450 => some (0, f', x8_450, atM (atM a (P + k'')) (MT_at (atM a (P + k'')) + 1))) (fun q q' => (q.1 = 0 ∧ q'.1 = 0 ∧ ∃ k, 0 ≤ k ∧ k ≤ P + k ∧ BP L (P + k) ∧ q.2.2.1 = k ∧ q.2.2.2 = ps Rd (P + k) ∧ q'.2.2.1 = k ∧ q'.2.2.2 = atM a (P + k) ∧ (k ≤ 3 → q.2.1 = q'.2.1) ∧ XB k q'.2.1 ∧ (k ≠ 0 → 48 ≤ PK w L P ∧ PK w L P ≤ 57)) ∨ (q.1 ≠ 0 ∧ q'.1 ≠ 0 ∧ ∃ k, 0 ≤ k ∧ BP L (P + k) ∧ q.2.2.2 = ps Rd (P + k) ∧ q'.2.2.1 = k ∧ q'.2.2.2 = atM a (P + k) ∧ (k ≤ 3 → q.2.1 = q'.2.1) ∧ (k = 0 ↔ ¬ (48 ≤ PK w L P ∧ PK w L P ≤ 57))) ∨ (q.1 = 0 ∧ q'.1 ≠ 0 ∧ ∀ m r, o_lp m (m_Rd_readExponent_b4 n) q.2 = some r → ∃ k, 0 ≤ k ∧ BP L (P + k) ∧ r.2.2.2 = ps Rd (P + k) ∧ q'.2.2.1 = k ∧ q'.2.2.2 = atM a (P + k) ∧ (k ≤ 3 → r.2.1 = q'.2.1) ∧ (k = 0 ↔ ¬ (48 ≤ PK w L P ∧ PK w L P ≤ 57)))) := by
        intro f f' h1 h2
        refine q2NL (q2NR (q2S (Or.inl ⟨rfl, rfl, k'' + 1, kk.1, kk.2.1, b, rfl, ?_, rfl, ?_, h1, h2, fun _ => first⟩)))
        · show ps Rd (P + k'' + 1) = _
          rw [e1]
        · show atM a (P + k'' + 1) = _
          rw [e1]
      by_cases c3 : (3:Int32) ≤ k''
      · refine q2tL c3 (q2IR (fun _ => ?_) (fun _ => q2Re k2 (q2NR ?_)))
        · exact out e e' (fun h => absurd h (by grind)) (fun h => absurd h (by grind))
        · exact out e _ (fun h => absurd h (by grind)) (fun h => absurd h (by grind))
      · have l3 : k'' ≤ 3 := by grind
        have ee := i7 l3
        subst ee
        obtain ⟨x0, xs⟩ := i8 l3
        have xb : e ≤ 999 := by
          rcases xs with ⟨_, b⟩ | ⟨_, b⟩ | ⟨_, b⟩ | ⟨_, b⟩ <;> grind
        refine q2fL c3 (q2NL (q2fR (by grind) (q2Re k2 (q2NR ?_))))
        refine out _ _ (fun _ => by rw [Int32.mul_comm]) ?_
        rw [Int32.mul_comm]
        exact XB_s i0 i8 (by grind) hd.1 hd.2
    · have fin : ∀ (c : Nat) (hc : c ≠ 0), ((c, e, k'', ps Rd (P + k'')).1 ≠ 0 ∧ ((1:Nat), e', k'', atM a (P + k'')).1 ≠ 0 ∧ ∃ k, 0 ≤ k ∧ BP L (P + k) ∧ (c, e, k'', ps Rd (P + k'')).2.2.2 = ps Rd (P + k) ∧ ((1:Nat), e', k'', atM a (P + k'')).2.2.1 = k ∧ ((1:Nat), e', k'', atM a (P + k'')).2.2.2 = atM a (P + k) ∧ (k ≤ 3 → (c, e, k'', ps Rd (P + k'')).2.1 = ((1:Nat), e', k'', atM a (P + k'')).2.1) ∧ (k = 0 ↔ ¬ (48 ≤ PK w L P ∧ PK w L P ≤ 57))) := by
        intro c hc
        refine ⟨hc, by first | decide | (dsimp only <;> decide), k'', i0, i2, rfl, rfl, rfl, i7, ?_⟩
        constructor
        · intro z
          subst z
          rw [Int32.add_zero] at hd
          exact hd
        · intro h
          by_cases z : k'' = 0
          · exact z
          · exact absurd (i9 z) h
      refine q2IL (fun c => ?_) (fun c => ?_)
      · exact q2Re k2 (q2Re (rr_ind0 hd) (q2tR rfl (q2S (Or.inr (Or.inl (fin 2 (by first | decide | (dsimp only <;> decide))))))))
      · exact q2Le k1 (q2Le (rr_isd0 hd) (q2tL rfl (q2Re k2 (q2Re (rr_ind0 hd) (q2tR rfl (q2S (Or.inr (Or.inl (fin 1 (by first | decide | (dsimp only <;> decide)))))))))))
  · have e0 : ∀ y : Int32, y + 0 = y := Int32.add_zero
    refine ⟨0, by first | decide | (dsimp only <;> decide), ?_, ?_, rfl, ?_, rfl, ?_, fun _ => rfl, fun _ => ⟨by first | decide | (dsimp only <;> decide), Or.inl ⟨rfl, by first | decide | (dsimp only <;> decide)⟩⟩, fun h => absurd rfl h⟩
    · rw [e0]; exact hb.1
    · rw [e0]; exact hb
    · rw [e0, ← hR.2.2.1]
    · rw [e0, ← hM.2.1]
/-! zeros behind and ahead -/
theorem rr_b27 {n : Nat} {x1 x2 x3 u0 u : Int32} {tc : STx} (h0 : 0 ≤ u0) (h1 : u0 ≤ u) (h2 : u ≤ 8192) : o_pu (o_lp n (m_Tx_endNumber_b27 n x1 x2 x3 u0 tc) u) (fun q => u0 ≤ q.2 ∧ q.2 ≤ u ∧ (∀ j : Int32, q.2 ≤ j → j < u → Tx_cells tc j.toNatClampNeg = 0) ∧ (q.2 = u0 ∨ Tx_cells tc (q.2 - 1).toNatClampNeg ≠ 0)) := by
  refine q1lp (fun z => u0 ≤ z ∧ z ≤ u ∧ ∀ j : Int32, z ≤ j → j < u → Tx_cells tc j.toNatClampNeg = 0) ?_ n u ⟨h1, Int32.le_refl _, fun j j0 j1 => absurd j1 (by grind)⟩
  rintro z ⟨a1, a2, a3⟩
  unfold m_Tx_endNumber_b27
  refine q1I (fun c => q1S (Or.inr ⟨Nat.succ_ne_zero _, a1, a2, a3, Or.inl (by show z = u0; grind)⟩)) (fun c => q1G (fun _ => q1I (fun c1 => ?_) (fun c1 => q1S (Or.inr ⟨Nat.succ_ne_zero _, a1, a2, a3, Or.inr c1⟩))))
  refine q1S (r := (0, z + -1)) (Or.inl ⟨rfl, by show u0 ≤ z + -1; grind, by show z + -1 ≤ u; grind, fun j j0 j1 => ?_⟩)
  replace j0 : z + -1 ≤ j := j0
  by_cases e : z ≤ j
  · exact a3 j e j1
  · have : j = z - 1 := by grind
    rw [this]
    exact c1
theorem rr_b52 {n : Nat} {x1 x2 x3 u0 to : Int32} {tc : STx} (h0 : 0 ≤ u0) (h1 : u0 ≤ to) (h2 : to ≤ 8192) : o_pu (o_lp n (m_Tx_endNumber_b52 n x1 x2 x3 to tc) u0) (fun q => u0 ≤ q.2 ∧ q.2 ≤ to ∧ (∀ j : Int32, u0 ≤ j → j < q.2 → Tx_cells tc j.toNatClampNeg = 0) ∧ (q.2 = to ∨ Tx_cells tc q.2.toNatClampNeg ≠ 0)) := by
  refine q1lp (fun z => u0 ≤ z ∧ z ≤ to ∧ ∀ j : Int32, u0 ≤ j → j < z → Tx_cells tc j.toNatClampNeg = 0) ?_ n u0 ⟨Int32.le_refl _, h1, fun j j0 j1 => absurd j1 (by grind)⟩
  rintro z ⟨a1, a2, a3⟩
  unfold m_Tx_endNumber_b52
  refine q1I (fun c => q1S (Or.inr ⟨Nat.succ_ne_zero _, a1, a2, a3, Or.inl (by show z = to; grind)⟩)) (fun c => q1G (fun _ => q1I (fun c1 => ?_) (fun c1 => q1S (Or.inr ⟨Nat.succ_ne_zero _, a1, a2, a3, Or.inr c1⟩))))
  refine q1S (r := (0, z + 1)) (Or.inl ⟨rfl, by show u0 ≤ z + 1; grind, by show z + 1 ≤ to; grind, fun j j0 j1 => ?_⟩)
  replace j1 : j < z + 1 := j1
  by_cases e : j < z
  · exact a3 j j0 e
  · have : j = z := by grind
    rw [this]
    exact c1
theorem rr_b488 {n : Nat} {x2 x5 x7 k W : Int32} {a : SMT} (hW : MT_written a = W) (h1 : 0 ≤ k) (h2 : k ≤ 8192) : o_pu (o_lp n (m_MT_number_b488 n x2 k x5 x7 a) 0) (fun q => 0 ≤ q.2 ∧ q.2 ≤ k ∧ (∀ j : Int32, 0 ≤ j → j < q.2 → MT_digits a (W + j).toNatClampNeg = 0) ∧ (q.2 = k ∨ MT_digits a (W + q.2).toNatClampNeg ≠ 0)) := by
  refine q1lp (fun z => 0 ≤ z ∧ z ≤ k ∧ ∀ j : Int32, 0 ≤ j → j < z → MT_digits a (W + j).toNatClampNeg = 0) ?_ n 0 ⟨by first | decide | (dsimp only <;> decide), h1, fun j j0 j1 => absurd j1 (by grind)⟩
  rintro z ⟨a1, a2, a3⟩
  unfold m_MT_number_b488
  rw [hW]
  refine q1I (fun c => q1S (Or.inr ⟨Nat.succ_ne_zero _, a1, a2, a3, Or.inl (by show z = k; grind)⟩)) (fun c => q1G (fun _ => q1I (fun c1 => ?_) (fun c1 => q1S (Or.inr ⟨Nat.succ_ne_zero _, a1, a2, a3, Or.inr c1⟩))))
  refine q1S (r := (0, z + 1)) (Or.inl ⟨rfl, by show 0 ≤ z + 1; grind, by show z + 1 ≤ k; grind, fun j j0 j1 => ?_⟩)
  replace j1 : j < z + 1 := j1
  by_cases e : j < z
  · exact a3 j j0 e
  · have : j = z := by grind
    rw [this]
    exact c1
theorem rr_b516 {n : Nat} {x2 x7 k B sk W : Int32} {a : SMT} (hW : MT_written a = W) (h1 : 0 ≤ sk) (h3 : sk ≤ k) (h2 : k ≤ 8192) : o_pu (o_lp n (m_MT_number_b516 n x2 x7 sk a) (k, B)) (fun q => sk ≤ q.2.1 ∧ q.2.1 ≤ k ∧ q.2.2 = B - (k - q.2.1) ∧ (∀ j : Int32, q.2.1 ≤ j → j < k → MT_digits a (W + j).toNatClampNeg = 0) ∧ (q.2.1 = sk ∨ MT_digits a (W + (q.2.1 - 1)).toNatClampNeg ≠ 0)) := by
  refine q1lp (fun z => sk ≤ z.1 ∧ z.1 ≤ k ∧ z.2 = B - (k - z.1) ∧ ∀ j : Int32, z.1 ≤ j → j < k → MT_digits a (W + j).toNatClampNeg = 0) ?_ n (k, B) ⟨h3, Int32.le_refl _, by show B = B - (k - k); grind, fun j j0 j1 => absurd j1 (by replace j0 : k ≤ j := j0; grind)⟩
  rintro ⟨z, y⟩ ⟨a1, a2, a4, a3⟩
  replace a1 : sk ≤ z := a1
  replace a2 : z ≤ k := a2
  replace a4 : y = B - (k - z) := a4
  have ew : W + z - 1 = W + (z - 1) := by grind
  unfold m_MT_number_b516
  rw [hW]
  refine q1I (fun c => q1S (Or.inr ⟨Nat.succ_ne_zero _, a1, a2, a4, a3, Or.inl ?_⟩)) (fun c => q1G (fun _ => q1I (fun c1 => ?_) (fun c1 => q1S (Or.inr ⟨Nat.succ_ne_zero _, a1, a2, a4, a3, Or.inr ?_⟩))))
  · replace c : z ≤ sk := c
    show z = sk
    grind
  · replace c1 : MT_digits a (W + z - 1).toNatClampNeg = 0 := c1
    rw [ew] at c1
    replace c : ¬ z ≤ sk := c
    refine q1S (r := (0, z + -1, y + -1)) (Or.inl ⟨rfl, by show sk ≤ z + -1; grind, by show z + -1 ≤ k; grind, by show y + -1 = B - (k - (z + -1)); grind, fun j j0 j1 => ?_⟩)
    replace j0 : z + -1 ≤ j := j0
    by_cases e : z ≤ j
    · exact a3 j e j1
    · have : j = z - 1 := by grind
      rw [this]
      exact c1
  · replace c1 : ¬ MT_digits a (W + z - 1).toNatClampNeg = 0 := c1
    rw [ew] at c1
    exact c1
/-- zeros taken off in either order -/
theorem rr_trim {c d : Nat → Int32} {u0 W k to fr sk x4 : Int32} (b0 : 0 ≤ u0) (b1 : u0 + k ≤ 8192) (b2 : 0 ≤ k) (b3 : k ≤ 8192) (hC : CEL c d u0 W k) (b4 : u0 ≤ 8192)
    (t1 : u0 ≤ to) (t2 : to ≤ u0 + k) (t3 : ∀ j : Int32, to ≤ j → j < u0 + k → c j.toNatClampNeg = 0) (t4 : to = u0 ∨ c (to - 1).toNatClampNeg ≠ 0)
    (f1 : u0 ≤ fr) (f2 : fr ≤ to) (f3 : ∀ j : Int32, u0 ≤ j → j < fr → c j.toNatClampNeg = 0) (f4 : fr = to ∨ c fr.toNatClampNeg ≠ 0)
    (s1 : 0 ≤ sk) (s2 : sk ≤ k) (s3 : ∀ j : Int32, 0 ≤ j → j < sk → d (W + j).toNatClampNeg = 0) (s4 : sk = k ∨ d (W + sk).toNatClampNeg ≠ 0)
    (x1 : sk ≤ x4) (x2 : x4 ≤ k) (x3 : ∀ j : Int32, x4 ≤ j → j < k → d (W + j).toNatClampNeg = 0) (x5 : x4 = sk ∨ d (W + (x4 - 1)).toNatClampNeg ≠ 0) :
    (to = fr ∧ x4 = sk) ∨ (to = u0 + x4 ∧ fr = u0 + sk ∧ sk < x4) := by
  have cd : ∀ j : Int32, u0 ≤ j → j < u0 + k → c j.toNatClampNeg = d (W + (j - u0)).toNatClampNeg := by
    intro j j0 j1
    have := hC (j - u0) (by grind) (by grind)
    have e : u0 + (j - u0) = j := by grind
    rw [e] at this
    exact this
  by_cases z : sk = k
  · left
    have e1 : to = u0 := by
      rcases t4 with h | h
      · exact h
      · by_cases e : to = u0
        · exact e
        · exfalso
          apply h
          rw [cd (to - 1) (by grind) (by grind)]
          exact s3 (to - 1 - u0) (by grind) (by grind)
    exact ⟨by grind, by grind⟩
  · right
    have ds := s4.resolve_left z
    have cs : c (u0 + sk).toNatClampNeg ≠ 0 := by
      rw [cd (u0 + sk) (by grind) (by grind)]
      have e : u0 + sk - u0 = sk := by grind
      rw [e]
      exact ds
    have g1 : u0 + sk < to := by
      by_cases e : u0 + sk < to
      · exact e
      · exact absurd (t3 (u0 + sk) (by grind) (by grind)) cs
    have ct := t4.resolve_left (by grind)
    have g2 : sk < x4 := by
      by_cases e : sk < x4
      · exact e
      · exact absurd (x3 sk (by grind) (by grind)) ds
    have dx := x5.resolve_left (by grind)
    have e1 : to = u0 + x4 := by
      by_cases l1 : to < u0 + x4
      · exfalso
        apply dx
        have := cd (u0 + (x4 - 1)) (by grind) (by grind)
        have e : u0 + (x4 - 1) - u0 = x4 - 1 := by grind
        rw [e] at this
        rw [← this]
        exact t3 (u0 + (x4 - 1)) (by grind) (by grind)
      · by_cases l2 : u0 + x4 < to
        · exfalso
          apply ct
          rw [cd (to - 1) (by grind) (by grind)]
          exact x3 (to - 1 - u0) (by grind) (by grind)
        · grind
    have e2 : fr = u0 + sk := by
      by_cases l1 : fr < u0 + sk
      · exfalso
        have h := f4.resolve_left (by grind)
        apply h
        rw [cd fr (by grind) (by grind)]
        exact s3 (fr - u0) (by grind) (by grind)
      · by_cases l2 : u0 + sk < fr
        · exact absurd (f3 (u0 + sk) (by grind) l2) cs
        · grind
    exact ⟨e1, e2, g2⟩
