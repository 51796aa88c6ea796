theorem pf0_bd {α β : Type} (a : α) (k : α → Option β) : o_bd (some a) k = k a := rfl
/-! p1, pure: the first call on a fresh object, class and reference side by side -/
theorem pi_no {k : Int32} (h1 : ¬ k < 0) (h2 : ¬ (-1:Int32) < k) : False := by
  simp only [Int32.lt_iff_toInt_lt] at h1 h2
  have e0 : (0:Int32).toInt = 0 := rfl
  have e1 : (-1:Int32).toInt = -1 := rfl
  omega
theorem pi_pos {x : Int32} (h0 : ¬ x = 0) (h1 : ¬ x < 0) : ¬ x ≤ 0 := by
  rw [← Int32.toInt_inj] at h0
  simp only [Int32.lt_iff_toInt_lt] at h1
  rw [Int32.le_iff_toInt_le]
  have e0 : (0:Int32).toInt = 0 := rfl
  omega
theorem pi_ge {x : Int32} (h1 : ¬ x < 0) : (0:Int32) ≤ x := by
  simp only [Int32.lt_iff_toInt_lt] at h1
  rw [Int32.le_iff_toInt_le]
  omega
set_option maxRecDepth 100000 in
theorem pf1_feed (a b c d e : Int32) : ∃ Rd', m_SJ_feed a b c d e z_Rd = some (0, 20, Rd') := ⟨_, rfl⟩
theorem pf5_j89 (n : Nat) (a b c d e y i f : Int32) (Mm : SMM) (hf : MM_fed Mm = f) (he : MM_err Mm = 0) (hin : o_in f 8200 = true) : ∃ Mm', m_MM_feed_j89 n a b c d e i y Mm = some (0, i + 1, Mm') ∧ MM_fed Mm' = f + 1 ∧ MM_err Mm' = 0 := by
  unfold m_MM_feed_j89
  rw [hf, hin]
  exact ⟨_, rfl, rfl, he⟩
theorem pf5_b (n : Nat) (a b c d e i : Int32) (Mm : SMM) (hf : MM_fed Mm = i) (he : MM_err Mm = 0) (hin : o_in i 8200 = true) (h : ¬ (20:Int32) ≤ i) : ∃ Mm', m_MM_feed_b36 n a b c d e (i, Mm) = some (0, i + 1, Mm') ∧ MM_fed Mm' = i + 1 ∧ MM_err Mm' = 0 := by
  unfold m_MM_feed_b36
  rw [if_neg h]
  by_cases h4 : (4:Int32) ≤ i
  · rw [if_pos h4]
    by_cases h8 : (8:Int32) ≤ i
    · rw [if_pos h8]
      by_cases h12 : (12:Int32) ≤ i
      · rw [if_pos h12]
        by_cases h16 : (16:Int32) ≤ i
        · rw [if_pos h16]; exact pf5_j89 n a b c d e _ i i Mm hf he hin
        · rw [if_neg h16]; exact pf5_j89 n a b c d e _ i i Mm hf he hin
      · rw [if_neg h12]; exact pf5_j89 n a b c d e _ i i Mm hf he hin
    · rw [if_neg h8]; exact pf5_j89 n a b c d e _ i i Mm hf he hin
  · rw [if_neg h4]; exact pf5_j89 n a b c d e _ i i Mm hf he hin
theorem pf5_i : ∀ k, k < 20 → ¬ (20:Int32) ≤ Int32.ofNat (19 - k) ∧ o_in (Int32.ofNat (19 - k)) 8200 = true ∧ Int32.ofNat (19 - k) + 1 = Int32.ofNat (20 - k) := by decide
theorem pf5_lp (n r : Nat) (a b c d e : Int32) : ∀ (k : Nat), k ≤ 20 → ∀ (Mm : SMM), MM_fed Mm = Int32.ofNat (20 - k) → MM_err Mm = 0 → ∃ Mm', o_lp (r + (k + 1)) (m_MM_feed_b36 n a b c d e) (Int32.ofNat (20 - k), Mm) = some (1, 20, Mm') ∧ MM_fed Mm' = 20 ∧ MM_err Mm' = 0 := by
  intro k
  induction k with
  | zero =>
    intro _ Mm hf he
    refine ⟨Mm, ?_, hf, he⟩
    have h0 : m_MM_feed_b36 n a b c d e (Int32.ofNat (20 - 0), Mm) = some (1, Int32.ofNat (20 - 0), Mm) := by
      unfold m_MM_feed_b36
      exact if_pos (show (20:Int32) ≤ Int32.ofNat (20 - 0) by decide)
    show o_bd (m_MM_feed_b36 n a b c d e (Int32.ofNat (20 - 0), Mm)) _ = _
    rw [h0]
    rfl
  | succ k ih =>
    intro hk Mm hf he
    obtain ⟨i1, i2, i3⟩ := pf5_i k (by omega)
    have e1 : 20 - (k + 1) = 19 - k := by omega
    rw [e1] at hf ⊢
    obtain ⟨M1, h1, f1, g1⟩ := pf5_b n a b c d e _ Mm hf he i2 i1
    rw [i3] at h1 f1
    obtain ⟨M2, h2, f2, g2⟩ := ih (by omega) M1 f1 g1
    refine ⟨M2, ?_, f2, g2⟩
    show o_bd (m_MM_feed_b36 n a b c d e (Int32.ofNat (19 - k), Mm)) _ = _
    rw [h1]
    exact h2
theorem pf5_j24 (a b c d e : Int32) (Mm : SMM) (hf : MM_fed Mm = 0) (he : MM_err Mm = 0) : ∃ Mm', m_MM_feed_j24 64 a b c d e 0 Mm = some (20, Mm') ∧ m_MM_thrown Mm' = some 0 := by
  have h0 : m_MM_fails 0 1 Mm = some (0, Mm) := by
    unfold m_MM_fails m_MM_fails_j16
    rw [if_pos rfl, if_pos he]
  obtain ⟨M1, h1, f1, g1⟩ := pf5_lp 64 43 a b c d e 20 (by omega) Mm hf he
  have h1 : o_lp 64 (m_MM_feed_b36 64 a b c d e) ((0:Int32), Mm) = some (1, 20, M1) := h1
  refine ⟨M1, ?_, congrArg some g1⟩
  unfold m_MM_feed_j24
  rw [h0]
  rw [show ∀ k : Int32 × SMM → Option (Int32 × SMM), o_bd (some ((0:Int32), Mm)) k = k (0, Mm) from fun _ => rfl]
  dsimp only
  rw [if_pos rfl, h1]
  show some (MM_fed M1, M1) = _
  rw [f1]
theorem pf5_feed (a b c d e : Int32) (Mm : SMM) (hf : MM_fed Mm = 0) : ∃ Mm', m_MM_feed 64 a b c d e Mm = some (20, Mm') ∧ m_MM_thrown Mm' = some 0 := by
  unfold m_MM_feed
  rw [if_pos (by rw [hf]; decide)]
  exact pf5_j24 a b c d e _ hf rfl
theorem pf2_feed (sd : Nat → Nat) (a b c d e : Int32) : ∃ Mm', m_MM_feed 64 a b c d e (z_Mm sd) = some (20, Mm') ∧ m_MM_thrown Mm' = some 0 := pf5_feed a b c d e _ rfl
set_option maxRecDepth 100000 in
theorem pf1_end1 (rt : Nat) (fl x : Int32) (h : ¬ x = 0) : m_SJ_end 64 rt fl x z_T0 z_T1 z_Rd z_Ck z_Sj = some (1, 0, z_T0, z_T1, z_Rd, z_Ck, z_Sj, rt) := by
  unfold m_SJ_end
  by_cases h1 : x < 0
  · rw [if_pos h1]; rfl
  · rw [if_neg h1]
    by_cases h2 : (8192:Int32) < x
    · rw [if_pos h2]; rfl
    · rw [if_neg h2]
      show (if x ≤ (0:Int32) then _ else m_SJ_end_j22 64 rt z_T0 z_T1 z_Rd z_Ck z_Sj) = _
      rw [if_neg (pi_pos h h1)]
      rfl
set_option maxRecDepth 100000 in
theorem pf2_end1 (sd : Nat → Nat) (fl x : Int32) (h : ¬ x = 0) : ∃ M0' M1' Mm', m_MM_end 64 fl x z_M0 z_M1 (z_Mm sd) = some (0, M0', M1', Mm') ∧ m_MM_thrown Mm' = some 1 := by
  unfold m_MM_end
  by_cases h1 : x < 0
  · rw [if_pos h1]; exact ⟨_, _, _, rfl, rfl⟩
  · rw [if_neg h1]
    by_cases h2 : (8192:Int32) < x
    · rw [if_pos h2]; exact ⟨_, _, _, rfl, rfl⟩
    · rw [if_neg h2, if_neg (show ¬ x ≤ MM_fed (z_Mm sd) from pi_pos h h1)]
      exact ⟨_, _, _, rfl, rfl⟩
set_option maxRecDepth 100000 in
theorem pf1_end2 (rt : Nat) : ∃ T0' T1' Rd' Ck' Sj' rt', m_SJ_end 64 rt 0 0 z_T0 z_T1 z_Rd z_Ck z_Sj = some (2, 0, T0', T1', Rd', Ck', Sj', rt') := ⟨_, _, _, _, _, _, rfl⟩
set_option maxRecDepth 100000 in
theorem pf1_end3 (rt : Nat) : ∃ T0' T1' Rd' Ck' Sj' rt', m_SJ_end 64 rt 1 0 z_T0 z_T1 z_Rd z_Ck z_Sj = some (2, 0, T0', T1', Rd', Ck', Sj', rt') := ⟨_, _, _, _, _, _, rfl⟩
set_option maxRecDepth 100000 in
theorem pf2_end2 (sd : Nat → Nat) : ∃ M0' M1' Mm', m_MM_end 64 0 0 z_M0 z_M1 (z_Mm sd) = some (0, M0', M1', Mm') ∧ m_MM_thrown Mm' = some 2 := ⟨_, _, _, rfl, rfl⟩
set_option maxRecDepth 100000 in
theorem pf2_end3 (sd : Nat → Nat) : ∃ M0' M1' Mm', m_MM_end 64 1 0 z_M0 z_M1 (z_Mm sd) = some (0, M0', M1', Mm') ∧ m_MM_thrown Mm' = some 2 := ⟨_, _, _, rfl, rfl⟩
set_option maxRecDepth 100000 in
theorem pf1_check : m_SJ_check 64 z_T0 z_Pg z_Pt z_Mk z_Lk z_Ck = some (3, 0, z_Pg, z_Pt, z_Mk, z_Lk, z_Ck) := rfl
set_option maxRecDepth 100000 in
theorem pf2_check (sd : Nat → Nat) : ∃ Mm', m_MM_check 64 z_M0 (z_Mm sd) = some (0, Mm') ∧ m_MM_thrown Mm' = some 1 := ⟨_, rfl, rfl⟩
set_option maxRecDepth 100000 in
theorem pf1_validate : m_SJ_validate 64 z_T0 z_T1 z_Pg z_Pt z_Mk z_Ck z_Ld z_Pr z_Jd = some (3, 0, z_Pg, z_Pt, z_Ld, z_Pr, z_Jd) := rfl
set_option maxRecDepth 100000 in
theorem pf2_validate (sd : Nat → Nat) : ∃ Mm', m_MM_validate z_M0 z_M1 (z_Mm sd) = some (0, Mm') ∧ m_MM_thrown Mm' = some 1 := ⟨_, rfl, rfl⟩
theorem pf1_pair (k fl : Int32) : m_SJ_pair k fl z_Pr = some (1, 0) := by
  unfold m_SJ_pair
  by_cases h1 : k < 0
  · rw [if_pos h1]; rfl
  · rw [if_neg h1]
    show (if k < (0:Int32) then _ else m_SJ_pair_j15 z_Pr) = _
    rw [if_neg h1]
    rfl
theorem pf3_in (k : Int32) : m_MM_in k 0 (-1) = some 0 := by
  unfold m_MM_in
  by_cases h1 : k < 0
  · rw [if_pos h1]
  · rw [if_neg h1]
    by_cases h2 : (-1:Int32) < k
    · rw [if_pos h2]
    · exact (pi_no h1 h2).elim
set_option maxRecDepth 100000 in
theorem pf2_pair (sd : Nat → Nat) (k fl : Int32) : ∃ Mm', m_MM_pair_1 k fl (z_Mm sd) = some (0, Mm') ∧ m_MM_thrown Mm' = some 1 := by
  unfold m_MM_pair_1
  rw [show m_MM_in k (0:Int32) (MM_pairs (z_Mm sd) - (1:Int32)) = some 0 from pf3_in k]
  exact ⟨_, rfl, rfl⟩
theorem pf4_has0 (v : Int32) : m_Tx_has v z_T0 = some 0 := by
  unfold m_Tx_has
  by_cases h1 : v < 0
  · rw [if_pos h1]
  · rw [if_neg h1, if_pos (show Tx_total z_T0 ≤ v from pi_ge h1)]
theorem pf4_has1 (v : Int32) : m_Tx_has v z_T1 = some 0 := pf4_has0 v
theorem pf1_value2 (fl v w : Int32) (h : w < 0 ∨ ¬ w ≤ 4) : m_SJ_value fl v w z_T0 z_T1 = some (2, 0) := by
  unfold m_SJ_value
  by_cases h1 : w < 0
  · rw [if_pos h1]; rfl
  · rw [if_neg h1, if_neg (h.resolve_left h1)]; rfl
theorem pf1_value1 (fl v w : Int32) (h1 : ¬ w < 0) (h2 : w ≤ 4) : m_SJ_value fl v w z_T0 z_T1 = some (1, 0) := by
  unfold m_SJ_value
  rw [if_neg h1, if_pos h2]
  by_cases h3 : fl = 0
  · rw [if_pos h3]
    unfold m_SJ_value_j34
    rw [pf4_has1 v]
    rfl
  · rw [if_neg h3]
    unfold m_SJ_value_j34v7
    rw [pf4_has0 v]
    rfl
theorem pf3_in4 (k n : Int32) (h : k < 0 ∨ ¬ k ≤ n) : m_MM_in k 0 n = some 0 := by
  unfold m_MM_in
  by_cases h1 : k < 0
  · rw [if_pos h1]
  · rw [if_neg h1, if_pos]
    have := h.resolve_left h1
    rw [Int32.le_iff_toInt_le] at this
    rw [Int32.lt_iff_toInt_lt]
    omega
theorem pf3_in5 (k n : Int32) (h1 : ¬ k < 0) (h2 : k ≤ n) : m_MM_in k 0 n = some 1 := by
  unfold m_MM_in
  rw [if_neg h1, if_neg]
  rw [Int32.le_iff_toInt_le] at h2
  rw [Int32.lt_iff_toInt_lt]
  omega
set_option maxRecDepth 100000 in
theorem pf2_value2 (sd : Nat → Nat) (fl v w : Int32) (h : w < 0 ∨ ¬ w ≤ 4) : ∃ Mm', m_MM_value fl v w z_M0 z_M1 (z_Mm sd) = some (0, Mm') ∧ m_MM_thrown Mm' = some 1 := by
  unfold m_MM_value
  by_cases h3 : fl = 0
  · rw [if_pos h3]
    unfold m_MM_value_j20
    rw [pf3_in4 w 4 h]
    exact ⟨_, rfl, rfl⟩
  · rw [if_neg h3]
    unfold m_MM_value_j20v5
    rw [pf3_in4 w 4 h]
    exact ⟨_, rfl, rfl⟩
set_option maxRecDepth 100000 in
theorem pf2_value1 (sd : Nat → Nat) (fl v w : Int32) (h1 : ¬ w < 0) (h2 : w ≤ 4) : ∃ Mm', m_MM_value fl v w z_M0 z_M1 (z_Mm sd) = some (0, Mm') ∧ m_MM_thrown Mm' = some 2 := by
  unfold m_MM_value
  by_cases h3 : fl = 0
  · rw [if_pos h3]
    unfold m_MM_value_j20
    rw [pf3_in5 w 4 h1 h2]
    show ∃ Mm', (o_bd (m_MM_in v (0:Int32) (-1)) _) = some (0, Mm') ∧ _
    rw [pf3_in v]
    exact ⟨_, rfl, rfl⟩
  · rw [if_neg h3]
    unfold m_MM_value_j20v5
    rw [pf3_in5 w 4 h1 h2]
    show ∃ Mm', (o_bd (m_MM_in v (0:Int32) (-1)) _) = some (0, Mm') ∧ _
    rw [pf3_in v]
    exact ⟨_, rfl, rfl⟩
theorem pf1_alike (v w : Int32) : m_SJ_alike 64 v w z_T1 = some (1, 0) := by
  unfold m_SJ_alike
  rw [pf4_has1 v]
  rfl
set_option maxRecDepth 100000 in
theorem pf2_alike (sd : Nat → Nat) (v w : Int32) : ∃ Mm', m_MM_alike v w z_M1 (z_Mm sd) = some (0, Mm') ∧ m_MM_thrown Mm' = some 1 := by
  unfold m_MM_alike
  rw [show m_MM_in v (0:Int32) (MT_values z_M1 - (1:Int32)) = some 0 from pf3_in v]
  exact ⟨_, rfl, rfl⟩
theorem pf1_matches (v w : Int32) : m_SJ_matches 64 v w z_T1 z_Pg z_Pt = some (1, 0, z_Pg, z_Pt) := by
  unfold m_SJ_matches
  rw [pf4_has1 v]
  rfl
set_option maxRecDepth 100000 in
theorem pf2_matches (sd : Nat → Nat) (v w : Int32) : ∃ Mm', m_MM_matches_1 v w z_M1 (z_Mm sd) = some (0, Mm') ∧ m_MM_thrown Mm' = some 1 := by
  unfold m_MM_matches_1
  rw [show m_MM_in v (0:Int32) (MT_values z_M1 - (1:Int32)) = some 0 from pf3_in v]
  exact ⟨_, rfl, rfl⟩
theorem pi_03 {k : Int32} (h1 : ¬ k < 0) (h2 : k ≤ 3) : k = 0 ∨ k = 1 ∨ k = 2 ∨ k = 3 := by
  simp only [Int32.lt_iff_toInt_lt] at h1
  rw [Int32.le_iff_toInt_le] at h2
  simp only [← Int32.toInt_inj]
  have e0 : (0:Int32).toInt = 0 := rfl
  have e1 : (1:Int32).toInt = 1 := rfl
  have e2 : (2:Int32).toInt = 2 := rfl
  have e3 : (3:Int32).toInt = 3 := rfl
  omega
set_option maxRecDepth 100000 in
theorem pf_count0 (sd : Nat → Nat) (k : Int32) (h1 : ¬ k < 0) (h2 : k ≤ 3) : m_SJ_count k z_T0 z_T1 z_Jd = some (0, 0) ∧ ∃ Mm', m_MM_count k z_M0 z_M1 (z_Mm sd) = some (0, Mm') ∧ m_MM_thrown Mm' = some 0 := by
  rcases pi_03 h1 h2 with rfl | rfl | rfl | rfl <;> exact ⟨rfl, _, rfl, rfl⟩
theorem pf1_count2 (k : Int32) (h : k < 0 ∨ ¬ k ≤ 3) : m_SJ_count k z_T0 z_T1 z_Jd = some (2, 0) := by
  have n0 : ¬ k = 0 := by rintro rfl; exact h.elim (by decide) (by decide)
  have n1 : ¬ k = 1 := by rintro rfl; exact h.elim (by decide) (by decide)
  have n2 : ¬ k = 2 := by rintro rfl; exact h.elim (by decide) (by decide)
  have n3 : ¬ k = 3 := by rintro rfl; exact h.elim (by decide) (by decide)
  unfold m_SJ_count
  rw [if_neg n0, if_neg n1, if_neg n2, if_neg n3]
theorem pf3_j20 (k : Int32) {M0 M1 : SMT} {Mm Mm' : SMM} (h : m_MM_fails 1 1 Mm = some (1, Mm')) : m_MM_count_j20 k 1 M0 M1 Mm = some (0, Mm') := by
  unfold m_MM_count_j20
  rw [h, pf0_bd]
  dsimp only
  rw [if_neg (by decide : ¬ (1:Int32) = 0)]
theorem pf3_cnt (k : Int32) (h : k < 0 ∨ ¬ k ≤ 3) {M0 M1 : SMT} {Mm Mm' : SMM} (h1 : m_MM_fails 1 1 (MM_mk (0:Int32) (MM_fed Mm) (MM_wrong Mm) (MM_octets Mm) (MM_nodeKind Mm) (MM_nodeA Mm) (MM_nodeB Mm) (MM_nodeC Mm) (MM_nodeNext Mm) (MM_low Mm) (MM_high Mm) (MM_setFrom Mm) (MM_setTo Mm) (MM_setNot Mm) (MM_op Mm) (MM_opA Mm) (MM_opB Mm) (MM_mark Mm) (MM_now Mm) (MM_then Mm) (MM_todo Mm) (MM_nodes Mm) (MM_sets Mm) (MM_ranges Mm) (MM_steps Mm) (MM_pat Mm) (MM_patEnd Mm) (MM_round Mm) (MM_many1 Mm) (MM_broken Mm) (MM_keys Mm) (MM_types Mm) (MM_checked Mm) (MM_faultKind Mm) (MM_faultValue Mm) (MM_latestFault Mm) (MM_anchors Mm) (MM_key Mm) (MM_target Mm) (MM_anchorValue Mm) (MM_anchorSchema Mm) (MM_path Mm) (MM_route Mm) (MM_isSchema Mm) (MM_seen1 Mm) (MM_pathSize Mm) (MM_octetRow Mm) (MM_partRow Mm) (MM_pairValue Mm) (MM_pairKey Mm) (MM_pairs Mm) (MM_judged Mm) (MM_deepest Mm) (MM_depth Mm) (MM_over Mm) (MM_seen Mm)) = some (1, Mm')) : m_MM_count k M0 M1 Mm = some (0, Mm') := by
  unfold m_MM_count
  rw [pf3_in4 k 3 h, pf0_bd, if_pos rfl]
  exact pf3_j20 k h1
set_option maxRecDepth 100000 in
theorem pf2_count2 (sd : Nat → Nat) (k : Int32) (h : k < 0 ∨ ¬ k ≤ 3) : ∃ Mm', m_MM_count k z_M0 z_M1 (z_Mm sd) = some (0, Mm') ∧ m_MM_thrown Mm' = some 1 := ⟨_, pf3_cnt k h rfl, rfl⟩
