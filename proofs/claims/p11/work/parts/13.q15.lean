/-! What is fed, and what is ended -/
def OCT (Ni : SNI) (Rd : SRd) : Prop := ∀ i : Int32, 0 ≤ i → i < NI_fed Ni → NI_octets Ni i.toNatClampNeg = oc (Rd_words Rd) i
theorem rr_and3 {x : Int32} (h : 0 ≤ x) : (x &&& 3).toBitVec.toNat = x.toBitVec.toNat % 4 := by
  show (x.toBitVec &&& (3:Int32).toBitVec).toNat = _
  rw [BitVec.toNat_and]
  exact Nat.and_two_pow_sub_one_eq_mod x.toBitVec.toNat 2
theorem rr_lin4 {wc k : Int32} (h0 : 0 ≤ wc) (h1 : wc ≤ 2045) (k0 : 0 ≤ k) (k1 : k < 20) : (wc * 4 + k).toInt = wc.toInt * 4 + k.toInt ∧ 0 ≤ wc.toInt ∧ wc.toInt ≤ 2045 ∧ 0 ≤ k.toInt ∧ k.toInt < 20 := by
  have a := Int32.le_iff_toInt_le.mp h0
  have b := Int32.le_iff_toInt_le.mp h1
  have c := Int32.le_iff_toInt_le.mp k0
  have d := Int32.lt_iff_toInt_lt.mp k1
  have z0 : (0:Int32).toInt = 0 := rfl
  have z1 : (2045:Int32).toInt = 2045 := rfl
  have z2 : (20:Int32).toInt = 20 := rfl
  have z4 : (4:Int32).toInt = 4 := rfl
  rw [z0] at a c
  rw [z1] at b
  rw [z2] at d
  have e1 : (wc * 4).toInt = wc.toInt * 4 := by
    rw [Int32.toInt_mul, z4]
    apply Int.bmod_eq_of_le <;> omega
  refine ⟨?_, a, b, c, d⟩
  rw [Int32.toInt_add, e1]
  apply Int.bmod_eq_of_le <;> omega
theorem rr_w4 {wc k : Int32} (h0 : 0 ≤ wc) (h1 : wc ≤ 2045) (k0 : 0 ≤ k) (k1 : k < 20) : (wc * 4 + k) >>> ((2:Int32) &&& 31) = wc + k >>> ((2:Int32) &&& 31) ∧ (wc * 4 + k) &&& 3 = k &&& 3 := by
  obtain ⟨e, a, b, c, d⟩ := rr_lin4 h0 h1 k0 k1
  have p0 : 0 ≤ wc * 4 + k := by
    rw [Int32.le_iff_toInt_le]
    show (0:Int) ≤ _
    omega
  constructor
  · apply Int32.toInt_inj.mp
    rw [rr_shr2, e, Int32.toInt_add, rr_shr2]
    have : (wc.toInt + k.toInt / 4).bmod (2 ^ 32) = wc.toInt + k.toInt / 4 := by
      apply Int.bmod_eq_of_le <;> omega
    rw [this]
    omega
  · apply Int32.toBitVec_inj.mp
    apply BitVec.eq_of_toNat_eq
    rw [rr_and3 p0, rr_and3 k0]
    have g1 := o_nneg p0
    have g2 := o_nneg k0
    omega
/-- the five words -/
def w5 (W : Nat → Int32) (wc x1 x2 x3 x4 x5 : Int32) : Nat → Int32 := upd (upd (upd (upd (upd W wc.toNatClampNeg x1) (wc + 1).toNatClampNeg x2) (wc + 1 + 1).toNatClampNeg x3) (wc + 1 + 1 + 1).toNatClampNeg x4) (wc + 1 + 1 + 1 + 1).toNatClampNeg x5
theorem w5_old {W : Nat → Int32} {wc x1 x2 x3 x4 x5 i : Int32} (h0 : 0 ≤ wc) (h1 : wc ≤ 2045) (i0 : 0 ≤ i) (i1 : i < wc) : w5 W wc x1 x2 x3 x4 x5 i.toNatClampNeg = W i.toNatClampNeg := by
  unfold w5
  rw [rr_upN i0 (by grind) (by grind), rr_upN i0 (by grind) (by grind), rr_upN i0 (by grind) (by grind), rr_upN i0 (by grind) (by grind), rr_upN i0 (by grind) (by grind)]
def yk (x1 x2 x3 x4 x5 k : Int32) : Int32 := if 4 ≤ k then (if 8 ≤ k then (if 12 ≤ k then (if 16 ≤ k then x5 else x4) else x3) else x2) else x1
theorem w5_new {W : Nat → Int32} {wc x1 x2 x3 x4 x5 k : Int32} (h0 : 0 ≤ wc) (h1 : wc ≤ 2045) (k0 : 0 ≤ k) (k1 : k < 20) : w5 W wc x1 x2 x3 x4 x5 (wc + k >>> ((2:Int32) &&& 31)).toNatClampNeg = yk x1 x2 x3 x4 x5 k := by
  have e := rr_shr2 (x := k)
  have c := Int32.le_iff_toInt_le.mp k0
  have d := Int32.lt_iff_toInt_lt.mp k1
  have z0 : (0:Int32).toInt = 0 := rfl
  have z2 : (20:Int32).toInt = 20 := rfl
  rw [z0] at c
  rw [z2] at d
  have val : ∀ (j : Int32) (n : Int), j.toInt = n → k.toInt / 4 = n → k >>> ((2:Int32) &&& 31) = j := by
    intro j n h1 h2
    apply Int32.toInt_inj.mp
    rw [e, h1, h2]
  have le : ∀ (m : Int32) (n : Int), m.toInt = n → (m ≤ k ↔ n ≤ k.toInt) := by
    intro m n h
    rw [Int32.le_iff_toInt_le, h]
  have l4 := le 4 4 rfl
  have l8 := le 8 8 rfl
  have l12 := le 12 12 rfl
  have l16 := le 16 16 rfl
  unfold yk w5
  by_cases a4 : 4 ≤ k
  · rw [if_pos a4]
    by_cases a8 : 8 ≤ k
    · rw [if_pos a8]
      by_cases a12 : 12 ≤ k
      · rw [if_pos a12]
        by_cases a16 : 16 ≤ k
        · rw [if_pos a16, val 4 4 rfl (by rw [l16] at a16; omega)]
          rw [rr_upE (by grind)]
        · rw [if_neg a16, val 3 3 rfl (by rw [l16] at a16; rw [l12] at a12; omega)]
          rw [rr_upN (by grind) (by grind) (by grind), rr_upE (by grind)]
      · rw [if_neg a12, val 2 2 rfl (by rw [l12] at a12; rw [l8] at a8; omega)]
        rw [rr_upN (by grind) (by grind) (by grind), rr_upN (by grind) (by grind) (by grind), rr_upE (by grind)]
    · rw [if_neg a8, val 1 1 rfl (by rw [l8] at a8; rw [l4] at a4; omega)]
      rw [rr_upN (by grind) (by grind) (by grind), rr_upN (by grind) (by grind) (by grind), rr_upN (by grind) (by grind) (by grind), rr_upE (by grind)]
  · rw [if_neg a4, val 0 0 rfl (by rw [l4] at a4; omega), Int32.add_zero]
    rw [rr_upN (by grind) (by grind) (by grind), rr_upN (by grind) (by grind) (by grind), rr_upN (by grind) (by grind) (by grind), rr_upN (by grind) (by grind) (by grind), rr_upE rfl]
theorem rr_addW {x : Int32} {Rd r : SRd} (h : Rd_wordCount Rd < 2050) (e : m_Rd_addWord x Rd = some r) : r = Rd_mk (upd (Rd_words Rd) (Rd_wordCount Rd).toNatClampNeg x) (Rd_wordCount Rd + 1) (Rd_position Rd) (Rd_limit Rd) (Rd_wrongPlace Rd) := by
  unfold m_Rd_addWord at e
  have e := o_ff (show ¬ (2050:Int32) ≤ Rd_wordCount Rd by grind) e
  have e := (o_gd_some e).2
  cases e
  rfl
theorem rr_feedC {x1 x2 x3 x4 x5 : Int32} {Rd : SRd} {r : Nat × Int32 × SRd} (h0 : 0 ≤ Rd_wordCount Rd) (h1 : Rd_wordCount Rd ≤ 2050) (e : m_SJ_feed x1 x2 x3 x4 x5 Rd = some r) : (2050 < Rd_wordCount Rd + 5 ∧ r = (1, 0, Rd)) ∨ (Rd_wordCount Rd ≤ 2045 ∧ r.1 = 0 ∧ Rd_words r.2.2 = w5 (Rd_words Rd) (Rd_wordCount Rd) x1 x2 x3 x4 x5) := by
  unfold m_SJ_feed m_Rd_hasRoom at e
  by_cases c : 2050 < Rd_wordCount Rd + 5
  · rw [if_pos c] at e
    replace e : some (1, 0, Rd) = some r := e
    cases e
    exact Or.inl ⟨c, rfl⟩
  · rw [if_neg c] at e
    obtain ⟨qh, eh, e⟩ := o_bd_some e
    cases eh
    have e := o_ff (show ¬ (1:Int32) = 0 by decide) e
    obtain ⟨q2, e2, e⟩ := o_bd_some e
    obtain ⟨q3, e3, e⟩ := o_bd_some e
    obtain ⟨q4, e4, e⟩ := o_bd_some e
    obtain ⟨q5, e5, e⟩ := o_bd_some e
    obtain ⟨q6, e6, e⟩ := o_bd_some e
    have e2 := rr_addW (by grind) e2
    subst e2
    have e3 := rr_addW (by show Rd_wordCount Rd + 1 < 2050; grind) e3
    subst e3
    have e4 := rr_addW (by show Rd_wordCount Rd + 1 + 1 < 2050; grind) e4
    subst e4
    have e5 := rr_addW (by show Rd_wordCount Rd + 1 + 1 + 1 < 2050; grind) e5
    subst e5
    have e6 := rr_addW (by show Rd_wordCount Rd + 1 + 1 + 1 + 1 < 2050; grind) e6
    subst e6
    unfold m_Rd_octets at e
    cases e
    exact Or.inr ⟨by grind, rfl, rfl⟩
theorem rr_fails {y cd : Int32} {Ni : SNI} {r : Int32 × SNI} (h : NI_err Ni = 0) (hc : cd ≠ 0) (e : m_MM_fails y cd Ni = some r) : (y = 0 ∧ r = (0, Ni)) ∨ (y ≠ 0 ∧ r = (1, NI_mk cd (NI_fed Ni) (NI_wrong Ni) (NI_octets Ni))) := by
  unfold m_MM_fails m_MM_fails_j16 at e
  by_cases c : y = 0
  · have e := o_tt c e
    have e := o_tt h e
    cases e
    exact Or.inl ⟨c, rfl⟩
  · have e := o_ff c e
    have e := o_tt h e
    have e := o_ff (show ¬ cd = 0 from hc) e
    cases e
    exact Or.inr ⟨c, rfl⟩
theorem rr_feed {m : Nat} {x1 x2 x3 x4 x5 : Int32} {Rd : SRd} {Ni : SNI} (h0 : 0 ≤ Rd_wordCount Rd) (h1 : Rd_wordCount Rd ≤ 2050) (hf : NI_fed Ni = Rd_wordCount Rd * 4) (hO : OCT Ni Rd) : o_p2 (m_SJ_feed x1 x2 x3 x4 x5 Rd) (m_MM_feed m x1 x2 x3 x4 x5 Ni) (fun r r' => OCT r'.2 r.2.2 ∧ NI_wrong r'.2 = NI_wrong Ni) := by
  intro r r' e e'
  have fe : ¬ (NI_fed Ni + 20 ≤ 8200) ↔ 2050 < Rd_wordCount Rd + 5 := by
    rw [hf]
    constructor <;> intro _ <;> grind
  unfold m_MM_feed at e'
  rcases rr_feedC h0 h1 e with ⟨c, rfl⟩ | ⟨c, g1, g2⟩
  · have e' := o_ff (fe.mpr c) e'
    unfold m_MM_feed_j24 at e'
    obtain ⟨q1, e1, e'⟩ := o_bd_some e'
    rcases rr_fails rfl (by first | decide | (dsimp only <;> decide)) e1 with ⟨z, _⟩ | ⟨_, rfl⟩
    · exact absurd z (by first | decide | (dsimp only <;> decide))
    · have e' := o_ff (show ¬ (1:Int32) = 0 by first | decide | (dsimp only <;> decide)) e'
      cases e'
      exact ⟨hO, rfl⟩
  · have e' := o_tt (show NI_fed Ni + 20 ≤ 8200 by rw [hf]; grind) e'
    unfold m_MM_feed_j24 at e'
    obtain ⟨q1, e1, e'⟩ := o_bd_some e'
    rcases rr_fails rfl (by first | decide | (dsimp only <;> decide)) e1 with ⟨_, rfl⟩ | ⟨z, _⟩
    · have e' := o_tt (show (0:Int32) = 0 from rfl) e'
      obtain ⟨q2, e2, e'⟩ := o_bd_some e'
      cases e'
      obtain ⟨W', hW⟩ : ∃ W', W' = w5 (Rd_words Rd) (Rd_wordCount Rd) x1 x2 x3 x4 x5 := ⟨_, rfl⟩
      have key := q1lp (f := m_MM_feed_b36 m x1 x2 x3 x4 x5) (P := fun q => (∀ i : Int32, 0 ≤ i → i < NI_fed q.2.2 → NI_octets q.2.2 i.toNatClampNeg = oc W' i) ∧ NI_wrong q.2.2 = NI_wrong Ni) (fun z => 0 ≤ z.1 ∧ z.1 ≤ 20 ∧ NI_fed z.2 = Rd_wordCount Rd * 4 + z.1 ∧ (∀ i : Int32, 0 ≤ i → i < NI_fed z.2 → NI_octets z.2 i.toNatClampNeg = oc W' i) ∧ NI_wrong z.2 = NI_wrong Ni) ?_ m _ ?_ q2 e2
      · refine ⟨?_, key.2⟩
        unfold OCT
        rw [g2, ← hW]
        exact key.1
      · rintro ⟨k, N⟩ ⟨k0, k1, k2, k3, k4⟩
        replace k0 : 0 ≤ k := k0
        replace k1 : k ≤ 20 := k1
        replace k2 : NI_fed N = Rd_wordCount Rd * 4 + k := k2
        replace k3 : ∀ i : Int32, 0 ≤ i → i < NI_fed N → NI_octets N i.toNatClampNeg = oc W' i := k3
        replace k4 : NI_wrong N = NI_wrong Ni := k4
        unfold m_MM_feed_b36
        refine q1I (fun _ => q1S (Or.inr ⟨Nat.succ_ne_zero _, k3, k4⟩)) (fun c20 => ?_)
        replace c20 : ¬ 20 ≤ k := c20
        have kl : k < 20 := by grind
        obtain ⟨s1, s2⟩ := rr_w4 h0 c k0 kl
        have go : ∀ y, y = yk x1 x2 x3 x4 x5 k → o_pu (m_MM_feed_j89 m x1 x2 x3 x4 x5 k y N) (fun q => (q.1 = 0 ∧ 0 ≤ q.2.1 ∧ q.2.1 ≤ 20 ∧ NI_fed q.2.2 = Rd_wordCount Rd * 4 + q.2.1 ∧ (∀ i : Int32, 0 ≤ i → i < NI_fed q.2.2 → NI_octets q.2.2 i.toNatClampNeg = oc W' i) ∧ NI_wrong q.2.2 = NI_wrong Ni) ∨ (q.1 ≠ 0 ∧ (∀ i : Int32, 0 ≤ i → i < NI_fed q.2.2 → NI_octets q.2.2 i.toNatClampNeg = oc W' i) ∧ NI_wrong q.2.2 = NI_wrong Ni)) := by
          intro y hy
          unfold m_MM_feed_j89
          refine q1G (fun _ => q1S (r := (0, k + 1, _)) (Or.inl ⟨rfl, by show 0 ≤ k + 1; grind, by show k + 1 ≤ 20; grind, ?_, ?_, k4⟩))
          · show NI_fed N + 1 = Rd_wordCount Rd * 4 + (k + 1)
            rw [k2, Int32.add_assoc]
          · intro i i0 i1
            replace i1 : i < NI_fed N + 1 := i1
            show upd (NI_octets N) (NI_fed N).toNatClampNeg _ i.toNatClampNeg = _
            have f0 : 0 ≤ NI_fed N := by rw [k2]; grind
            have f1 : NI_fed N ≤ 8200 := by rw [k2]; grind
            by_cases ei : i = NI_fed N
            · rw [rr_upE ei, ei, k2]
              unfold oc
              rw [s1, s2, hW, w5_new h0 c k0 kl, hy]
            · rw [rr_upN i0 f0 ei]
              exact k3 i i0 (by grind)
        unfold yk at go
        refine q1I (fun a4 => q1I (fun a8 => q1I (fun a12 => q1I (fun a16 => go _ ?_) (fun a16 => go _ ?_)) (fun a12 => go _ ?_)) (fun a8 => go _ ?_)) (fun a4 => go _ ?_)
        · rw [if_pos (show 4 ≤ k from a4), if_pos (show 8 ≤ k from a8), if_pos (show 12 ≤ k from a12), if_pos (show 16 ≤ k from a16)]
        · rw [if_pos (show 4 ≤ k from a4), if_pos (show 8 ≤ k from a8), if_pos (show 12 ≤ k from a12), if_neg (show ¬ 16 ≤ k from a16)]
        · rw [if_pos (show 4 ≤ k from a4), if_pos (show 8 ≤ k from a8), if_neg (show ¬ 12 ≤ k from a12)]
        · rw [if_pos (show 4 ≤ k from a4), if_neg (show ¬ 8 ≤ k from a8)]
        · rw [if_neg (show ¬ 4 ≤ k from a4)]
      · refine ⟨by first | decide | (dsimp only <;> decide), by first | decide | (dsimp only <;> decide), ?_, ?_, rfl⟩
        · show NI_fed Ni = Rd_wordCount Rd * 4 + 0
          rw [Int32.add_zero]
          exact hf
        · intro i i0 i1
          replace i1 : i < NI_fed Ni := i1
          show NI_octets Ni i.toNatClampNeg = _
          rw [hO i i0 i1]
          unfold oc
          have hi := rr_shr2 (x := i)
          have a := Int32.le_iff_toInt_le.mp i0
          have b := Int32.lt_iff_toInt_lt.mp i1
          have cc := Int32.le_iff_toInt_le.mp h0
          have dd := Int32.le_iff_toInt_le.mp c
          have z0 : (0:Int32).toInt = 0 := rfl
          have z1 : (2045:Int32).toInt = 2045 := rfl
          have z4 : (4:Int32).toInt = 4 := rfl
          rw [hf] at b
          have e4 : (Rd_wordCount Rd * 4).toInt = (Rd_wordCount Rd).toInt * 4 := by
            rw [Int32.toInt_mul, z4]
            apply Int.bmod_eq_of_le <;> omega
          rw [hW, w5_old h0 c (Int32.le_iff_toInt_le.mpr (by omega)) (Int32.lt_iff_toInt_lt.mpr (by omega))]
    · exact absurd rfl z
/-! end -/
abbrev txM (a : SMT) (t : Nat → Int32) : SMT := MT_mk t (MT_kind a) (MT_place a) (MT_many a) (MT_parent a) (MT_power a) (MT_first a) (MT_next a) (MT_name a) (MT_from a) (MT_characters a) (MT_digits a) (MT_minus a) (MT_values a) (MT_letters a) (MT_at a) (MT_wrong a) (MT_used a) (MT_written a) (MT_left a)
theorem rr_copy1 {m : Nat} {x1 x2 : Int32} {Ni : SNI} {Nf : SNF} {M0 M1 : SMT} (h : x2 ≤ 8192) : o_pu (o_lp m (m_MM_end_b63 m x1 x2 Ni Nf) ((0:Int32), M0, M1)) (fun q => q.2.2.1 = M0 ∧ ∃ t, q.2.2.2 = txM M1 t ∧ ∀ i : Int32, 0 ≤ i → i < x2 → t i.toNatClampNeg = NI_octets Ni i.toNatClampNeg) := by
  refine q1lp (fun z => 0 ≤ z.1 ∧ z.2.1 = M0 ∧ ∃ t, z.2.2 = txM M1 t ∧ ∀ i : Int32, 0 ≤ i → i < z.1 → t i.toNatClampNeg = NI_octets Ni i.toNatClampNeg) ?_ m _ ⟨by first | decide | (dsimp only <;> decide), rfl, MT_text M1, rfl, fun i i0 i1 => absurd (Int32.lt_of_le_of_lt i0 i1) (by first | decide | (dsimp only <;> decide))⟩
  rintro ⟨k, A, B⟩ ⟨k0, k1, t, k2, k3⟩
  replace k0 : 0 ≤ k := k0
  replace k1 : A = M0 := k1
  replace k2 : B = txM M1 t := k2
  replace k3 : ∀ i : Int32, 0 ≤ i → i < k → t i.toNatClampNeg = NI_octets Ni i.toNatClampNeg := k3
  subst k1 k2
  unfold m_MM_end_b63
  refine q1I (fun c => q1S (Or.inr ⟨Nat.succ_ne_zero _, rfl, t, rfl, fun i i0 i1 => k3 i i0 (by replace c : x2 ≤ k := c; grind)⟩)) (fun c => q1G (fun _ => q1G (fun _ => ?_)))
  replace c : ¬ x2 ≤ k := c
  refine q1S (r := (0, k + 1, A, txM (txM M1 t) _)) (Or.inl ⟨rfl, by show 0 ≤ k + 1; grind, rfl, upd t k.toNatClampNeg (NI_octets Ni k.toNatClampNeg), rfl, ?_⟩)
  intro i i0 i1
  replace i1 : i < k + 1 := i1
  by_cases e : i = k
  · rw [rr_upE e, e]
  · rw [rr_upN i0 k0 e]
    exact k3 i i0 (by grind)
theorem rr_copy0 {m : Nat} {x1 x2 : Int32} {Ni : SNI} {Nf : SNF} {M0 M1 : SMT} (h : x2 ≤ 8192) : o_pu (o_lp m (m_MM_end_b63v5 m x1 x2 Ni Nf) ((0:Int32), M0, M1)) (fun q => q.2.2.2 = M1 ∧ ∃ t, q.2.2.1 = txM M0 t ∧ ∀ i : Int32, 0 ≤ i → i < x2 → t i.toNatClampNeg = NI_octets Ni i.toNatClampNeg) := by
  refine q1lp (fun z => 0 ≤ z.1 ∧ z.2.2 = M1 ∧ ∃ t, z.2.1 = txM M0 t ∧ ∀ i : Int32, 0 ≤ i → i < z.1 → t i.toNatClampNeg = NI_octets Ni i.toNatClampNeg) ?_ m _ ⟨by first | decide | (dsimp only <;> decide), rfl, MT_text M0, rfl, fun i i0 i1 => absurd (Int32.lt_of_le_of_lt i0 i1) (by first | decide | (dsimp only <;> decide))⟩
  rintro ⟨k, A, B⟩ ⟨k0, k1, t, k2, k3⟩
  replace k0 : 0 ≤ k := k0
  replace k1 : B = M1 := k1
  replace k2 : A = txM M0 t := k2
  replace k3 : ∀ i : Int32, 0 ≤ i → i < k → t i.toNatClampNeg = NI_octets Ni i.toNatClampNeg := k3
  subst k1 k2
  unfold m_MM_end_b63v5
  refine q1I (fun c => q1S (Or.inr ⟨Nat.succ_ne_zero _, rfl, t, rfl, fun i i0 i1 => k3 i i0 (by replace c : x2 ≤ k := c; grind)⟩)) (fun c => q1G (fun _ => q1G (fun _ => ?_)))
  replace c : ¬ x2 ≤ k := c
  refine q1S (r := (0, k + 1, txM (txM M0 t) _, B)) (Or.inl ⟨rfl, by show 0 ≤ k + 1; grind, rfl, upd t k.toNatClampNeg (NI_octets Ni k.toNatClampNeg), rfl, ?_⟩)
  intro i i0 i1
  replace i1 : i < k + 1 := i1
  by_cases e : i = k
  · rw [rr_upE e, e]
  · rw [rr_upN i0 k0 e]
    exact k3 i i0 (by grind)
/-- the class's reader after a reading -/
theorem rr_wc {n : Nat} {x2 : Int32} {a1 : STx} {Rd : SRd} {r : Int32 × STx × SRd} (e : m_Rd_read n x2 a1 Rd = some r) : Rd_wordCount r.2.2 = 0 := by
  have j : ∀ (a : STx) (R : SRd), m_Rd_read_j63 n a R = some r → Rd_wordCount r.2.2 = 0 := by
    intro a R e
    unfold m_Rd_read_j63 at e
    by_cases c : Rd_wrongPlace R = -1
    · have e := o_tt c e
      cases e
      rfl
    · have e := o_ff c e
      obtain ⟨q, _, e⟩ := o_bd_some e
      cases e
      rfl
  unfold m_Rd_read at e
  obtain ⟨q1, _, e⟩ := o_bd_some e
  obtain ⟨q2, _, e⟩ := o_bd_some e
  by_cases c : q2.1 = 0
  · exact j _ _ (o_tt c e)
  · have e := o_ff c e
    obtain ⟨q4, _, e⟩ := o_bd_some e
    by_cases c2 : Rd_limit q4 ≤ Rd_position q4
    · exact j _ _ (o_tt c2 e)
    · have e := o_ff c2 e
      obtain ⟨q5, _, e⟩ := o_bd_some e
      exact j _ _ e
/-- all that both sides have in common between two calls -/
def RELq (Sj : SSJ) (T0 T1 : STx) (Rd : SRd) (Ni : SNI) (M0 M1 : SMT) : Prop := OCT Ni Rd ∧ SJ_wrongAt Sj = NI_wrong Ni ∧ TREE T0 M0 ∧ TREE T1 M1
def ENDq (r : Nat × Int32 × STx × STx × SRd × SCk × SSJ × Nat) (r' : Int32 × SMT × SMT × SNI × SNF) : Prop := RELq r.2.2.2.2.2.2.1 r.2.2.1 r.2.2.2.1 r.2.2.2.2.1 r'.2.2.2.1 r'.2.1 r'.2.2.1 ∧ NI_err r'.2.2.2.1 = Int32.ofNat r.1 ∧ (r.1 = 0 → r.2.1 = r'.1)
theorem rr_end {n m rt : Nat} {x1 x2 : Int32} {T0 T1 : STx} {Rd : SRd} {Ck : SCk} {Sj : SSJ} {M0 M1 : SMT} {Ni : SNI} {Nf : SNF} (hf : NI_fed Ni = Rd_wordCount Rd * 4) (hq : RELq Sj T0 T1 Rd Ni M0 M1) : o_p2 (m_SJ_end n rt x1 x2 T0 T1 Rd Ck Sj) (m_MM_end m x1 x2 M0 M1 Ni Nf) ENDq := by
  obtain ⟨hO, hw, t0, t1⟩ := hq
  have no : o_p2 (m_SJ_end_j22 n rt T0 T1 Rd Ck Sj) (m_MM_end_j30 m x1 x2 (1:Int32) M0 M1 (NI_mk (0:Int32) (NI_fed Ni) (NI_wrong Ni) (NI_octets Ni)) Nf) ENDq := by
    unfold m_SJ_end_j22 m_MM_end_j30
    refine q2R (fun q1 e1 => ?_)
    rcases rr_fails rfl (by first | decide | (dsimp only <;> decide)) e1 with ⟨z, _⟩ | ⟨_, rfl⟩
    · exact absurd z (by first | decide | (dsimp only <;> decide))
    · exact q2fR (by first | decide | (dsimp only <;> decide)) (q2S ⟨⟨hO, hw, t0, t1⟩, rfl, fun z => absurd z (by first | decide | (dsimp only <;> decide))⟩)
  unfold m_SJ_end m_MM_end m_Rd_octets
  refine q2IB Iff.rfl (fun _ => no) (fun c0 => q2IB Iff.rfl (fun _ => no) (fun c1 => ?_))
  rw [hf]
  refine q2Le rfl (q2IB Iff.rfl (fun c2 => ?_) (fun _ => by rw [hf] at no; exact no))
  have x0 : 0 ≤ x2 := by grind
  have x8 : x2 ≤ 8192 := by grind
  have txt : ∀ (t : Nat → Int32), (∀ i : Int32, 0 ≤ i → i < x2 → t i.toNatClampNeg = NI_octets Ni i.toNatClampNeg) → TXT t (Rd_words Rd) x2 := by
    intro t ht i i0 i1
    rw [ht i i0 i1]
    exact hO i i0 (by rw [hf]; exact Int32.lt_of_lt_of_le i1 c2)
  have oct0 : ∀ (R : SRd) (N : SNI), NI_fed N = 0 → OCT N R := by
    intro R N h i i0 i1
    rw [h] at i1
    exact absurd (Int32.lt_of_le_of_lt i0 i1) (by first | decide | (dsimp only <;> decide))
  unfold m_MM_end_j30
  have inst : ∀ Ck' : SCk, ∀ (Nf' : SNF) (t : Nat → Int32), (∀ i : Int32, 0 ≤ i → i < x2 → t i.toNatClampNeg = NI_octets Ni i.toNatClampNeg) → o_p2 (m_SJ_end_j58 n rt x2 T0 T1 Rd Ck' Sj) (m_MM_end_j103 m x2 M0 (txM M1 t) (NI_mk (0:Int32) (0:Int32) (NI_wrong Ni) (NI_octets Ni)) Nf') ENDq := by
    intro Ck' Nf' t ht
    unfold m_SJ_end_j58 m_MM_end_j103 m_MM_end_j125 m_Tx_total
    refine q2L (fun r e => q2R (fun r' e' => ?_))
    obtain ⟨g1, g2, g3⟩ := rr_read (a := txM M1 t) x0 x8 (txt t ht) r r' e e'
    by_cases cz : r.1 = -1
    · refine q2tL cz (q2tR (by rw [← g1, cz]; first | decide | (dsimp only <;> decide)) (q2Le rfl (q2R (fun q4 e4 => ?_))))
      rcases rr_fails rfl (by first | decide | (dsimp only <;> decide)) e4 with ⟨_, rfl⟩ | ⟨z, _⟩
      · exact q2tR rfl (q2S ⟨⟨oct0 _ _ rfl, g1, t0, g3⟩, rfl, fun _ => g3.1⟩)
      · exact absurd rfl z
    · refine q2fL cz (q2fR (by rw [← g1]; grind) (q2R (fun q4 e4 => ?_)))
      rcases rr_fails rfl (by first | decide | (dsimp only <;> decide)) e4 with ⟨z, _⟩ | ⟨_, rfl⟩
      · exact absurd z (by first | decide | (dsimp only <;> decide))
      · exact q2fR (by first | decide | (dsimp only <;> decide)) (q2S ⟨⟨oct0 _ _ rfl, g1, t0, g3⟩, rfl, fun z => absurd z (by first | decide | (dsimp only <;> decide))⟩)
  have sche : ∀ Ck' : SCk, ∀ (Nf' : SNF) (t : Nat → Int32), (∀ i : Int32, 0 ≤ i → i < x2 → t i.toNatClampNeg = NI_octets Ni i.toNatClampNeg) → o_p2 (m_SJ_end_j58v4 n rt x2 T0 T1 Rd Ck' Sj) (m_MM_end_j103v7 m x2 (txM M0 t) M1 (NI_mk (0:Int32) (0:Int32) (NI_wrong Ni) (NI_octets Ni)) Nf') ENDq := by
    intro Ck' Nf' t ht
    unfold m_SJ_end_j58v4 m_MM_end_j103v7 m_MM_end_j125v9 m_Tx_total
    refine q2L (fun r e => q2R (fun r' e' => ?_))
    obtain ⟨g1, g2, g3⟩ := rr_read (a := txM M0 t) x0 x8 (txt t ht) r r' e e'
    by_cases cz : r.1 = -1
    · refine q2tL cz (q2tR (by rw [← g1, cz]; first | decide | (dsimp only <;> decide)) (q2Le rfl (q2R (fun q4 e4 => ?_))))
      rcases rr_fails rfl (by first | decide | (dsimp only <;> decide)) e4 with ⟨_, rfl⟩ | ⟨z, _⟩
      · exact q2tR rfl (q2S ⟨⟨oct0 _ _ rfl, g1, g3, t1⟩, rfl, fun _ => g3.1⟩)
      · exact absurd rfl z
    · refine q2fL cz (q2fR (by rw [← g1]; grind) (q2R (fun q4 e4 => ?_)))
      rcases rr_fails rfl (by first | decide | (dsimp only <;> decide)) e4 with ⟨z, _⟩ | ⟨_, rfl⟩
      · exact absurd z (by first | decide | (dsimp only <;> decide))
      · exact q2fR (by first | decide | (dsimp only <;> decide)) (q2S ⟨⟨oct0 _ _ rfl, g1, g3, t1⟩, rfl, fun z => absurd z (by first | decide | (dsimp only <;> decide))⟩)
  refine q2R (fun q1 e1 => ?_)
  rcases rr_fails rfl (by first | decide | (dsimp only <;> decide)) e1 with ⟨_, rfl⟩ | ⟨z, _⟩
  · refine q2tR rfl ?_
    by_cases cx : x1 = 0
    · refine q2tL cx (q2tR cx (q2R (fun q2 e2 => q2tR cx ?_)))
      obtain ⟨g1, t, g2, g3⟩ := rr_copy1 x8 q2 e2
      rw [g1, g2]
      unfold m_SJ_end_j43
      exact q2tL cx (inst _ _ t g3)
    · refine q2fL cx (q2fR cx (q2R (fun q2 e2 => q2fR cx (q2L (fun q7 e7 => ?_)))))
      obtain ⟨g1, t, g2, g3⟩ := rr_copy0 x8 q2 e2
      rw [g1, g2]
      unfold m_SJ_end_j43
      exact q2fL cx (sche _ _ t g3)
  · exact absurd rfl z
