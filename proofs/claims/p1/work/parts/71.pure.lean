/-! p1, pure: the first call on a fresh object, class and reference side by side -/
theorem pi_no {k : Int32} (h1 : ¬ k < 0) (h2 : ¬ (-1:Int32) < k) : False := by
  simp only [Int32.lt_iff_toInt_lt] at h1 h2
  have e0 : (0:Int32).toInt = 0 := rfl
  have e1 : (-1:Int32).toInt = -1 := rfl
  omega
theorem pi_pos {x : Int32} (h0 : ¬ x = 0) (h1 : ¬ x < 0) : ¬ x ≤ 0 := by
  rw [← Int32.toInt_inj] at h0
  simp only [Int32.lt_iff_toInt_lt] at h1
  rw [Int32.le_iff_toInt_le]
  have e0 : (0:Int32).toInt = 0 := rfl
  omega
theorem pi_ge {x : Int32} (h1 : ¬ x < 0) : (0:Int32) ≤ x := by
  simp only [Int32.lt_iff_toInt_lt] at h1
  rw [Int32.le_iff_toInt_le]
  omega
set_option maxRecDepth 100000 in
theorem pf1_feed (a b c d e : Int32) : ∃ Rd', m_SJ_feed a b c d e z_Rd = some (0, 20, Rd') := ⟨_, rfl⟩
set_option maxRecDepth 100000 in
theorem pf2_feed (sd : Nat → Nat) (a b c d e : Int32) : ∃ Mm', m_MM_feed 64 a b c d e (z_Mm sd) = some (20, Mm') ∧ m_MM_thrown Mm' = some 0 := ⟨_, rfl, rfl⟩
set_option maxRecDepth 100000 in
theorem pf1_end1 (rt : Nat) (fl x : Int32) (h : ¬ x = 0) : m_SJ_end 64 rt fl x z_T0 z_T1 z_Rd z_Ck z_Sj = some (1, 0, z_T0, z_T1, z_Rd, z_Ck, z_Sj, rt) := by
  unfold m_SJ_end
  by_cases h1 : x < 0
  · rw [if_pos h1]; rfl
  · rw [if_neg h1]
    by_cases h2 : (8192:Int32) < x
    · rw [if_pos h2]; rfl
    · rw [if_neg h2]
      show (if x ≤ (0:Int32) then _ else m_SJ_end_j22 64 rt z_T0 z_T1 z_Rd z_Ck z_Sj) = _
      rw [if_neg (pi_pos h h1)]
      rfl
set_option maxRecDepth 100000 in
theorem pf2_end1 (sd : Nat → Nat) (fl x : Int32) (h : ¬ x = 0) : ∃ M0' M1' Mm', m_MM_end 64 fl x z_M0 z_M1 (z_Mm sd) = some (0, M0', M1', Mm') ∧ m_MM_thrown Mm' = some 1 := by
  unfold m_MM_end
  by_cases h1 : x < 0
  · rw [if_pos h1]; exact ⟨_, _, _, rfl, rfl⟩
  · rw [if_neg h1]
    by_cases h2 : (8192:Int32) < x
    · rw [if_pos h2]; exact ⟨_, _, _, rfl, rfl⟩
    · rw [if_neg h2, if_neg (show ¬ x ≤ MM_fed (z_Mm sd) from pi_pos h h1)]
      exact ⟨_, _, _, rfl, rfl⟩
set_option maxRecDepth 100000 in
theorem pf1_end2 (rt : Nat) : ∃ T0' T1' Rd' Ck' Sj' rt', m_SJ_end 64 rt 0 0 z_T0 z_T1 z_Rd z_Ck z_Sj = some (2, 0, T0', T1', Rd', Ck', Sj', rt') := ⟨_, _, _, _, _, _, rfl⟩
set_option maxRecDepth 100000 in
theorem pf1_end3 (rt : Nat) : ∃ T0' T1' Rd' Ck' Sj' rt', m_SJ_end 64 rt 1 0 z_T0 z_T1 z_Rd z_Ck z_Sj = some (2, 0, T0', T1', Rd', Ck', Sj', rt') := ⟨_, _, _, _, _, _, rfl⟩
set_option maxRecDepth 100000 in
theorem pf2_end2 (sd : Nat → Nat) : ∃ M0' M1' Mm', m_MM_end 64 0 0 z_M0 z_M1 (z_Mm sd) = some (0, M0', M1', Mm') ∧ m_MM_thrown Mm' = some 2 := ⟨_, _, _, rfl, rfl⟩
set_option maxRecDepth 100000 in
theorem pf2_end3 (sd : Nat → Nat) : ∃ M0' M1' Mm', m_MM_end 64 1 0 z_M0 z_M1 (z_Mm sd) = some (0, M0', M1', Mm') ∧ m_MM_thrown Mm' = some 2 := ⟨_, _, _, rfl, rfl⟩
set_option maxRecDepth 100000 in
theorem pf1_check : m_SJ_check 64 z_T0 z_Pg z_Pt z_Mk z_Lk z_Ck = some (3, 0, z_Pg, z_Pt, z_Mk, z_Lk, z_Ck) := rfl
set_option maxRecDepth 100000 in
theorem pf2_check (sd : Nat → Nat) : ∃ Mm', m_MM_check 64 z_M0 (z_Mm sd) = some (0, Mm') ∧ m_MM_thrown Mm' = some 1 := ⟨_, rfl, rfl⟩
set_option maxRecDepth 100000 in
theorem pf1_validate : m_SJ_validate 64 z_T0 z_T1 z_Pg z_Pt z_Mk z_Ck z_Ld z_Pr z_Jd = some (3, 0, z_Pg, z_Pt, z_Ld, z_Pr, z_Jd) := rfl
set_option maxRecDepth 100000 in
theorem pf2_validate (sd : Nat → Nat) : ∃ Mm', m_MM_validate z_M0 z_M1 (z_Mm sd) = some (0, Mm') ∧ m_MM_thrown Mm' = some 1 := ⟨_, rfl, rfl⟩
theorem pf1_pair (k fl : Int32) : m_SJ_pair k fl z_Pr = some (1, 0) := by
  unfold m_SJ_pair
  by_cases h1 : k < 0
  · rw [if_pos h1]; rfl
  · rw [if_neg h1]
    show (if k < (0:Int32) then _ else m_SJ_pair_j15 z_Pr) = _
    rw [if_neg h1]
    rfl
theorem pf3_in (k : Int32) : m_MM_in k 0 (-1) = some 0 := by
  unfold m_MM_in
  by_cases h1 : k < 0
  · rw [if_pos h1]
  · rw [if_neg h1]
    by_cases h2 : (-1:Int32) < k
    · rw [if_pos h2]
    · exact (pi_no h1 h2).elim
set_option maxRecDepth 100000 in
theorem pf2_pair (sd : Nat → Nat) (k fl : Int32) : ∃ Mm', m_MM_pair_1 k fl (z_Mm sd) = some (0, Mm') ∧ m_MM_thrown Mm' = some 1 := by
  unfold m_MM_pair_1
  rw [show m_MM_in k (0:Int32) (MM_pairs (z_Mm sd) - (1:Int32)) = some 0 from pf3_in k]
  exact ⟨_, rfl, rfl⟩
theorem pf4_has0 (v : Int32) : m_Tx_has v z_T0 = some 0 := by
  unfold m_Tx_has
  by_cases h1 : v < 0
  · rw [if_pos h1]
  · rw [if_neg h1, if_pos (show Tx_total z_T0 ≤ v from pi_ge h1)]
theorem pf4_has1 (v : Int32) : m_Tx_has v z_T1 = some 0 := pf4_has0 v
theorem pf1_value2 (fl v w : Int32) (h : w < 0 ∨ ¬ w ≤ 4) : m_SJ_value fl v w z_T0 z_T1 = some (2, 0) := by
  unfold m_SJ_value
  by_cases h1 : w < 0
  · rw [if_pos h1]; rfl
  · rw [if_neg h1, if_neg (h.resolve_left h1)]; rfl
theorem pf1_value1 (fl v w : Int32) (h1 : ¬ w < 0) (h2 : w ≤ 4) : m_SJ_value fl v w z_T0 z_T1 = some (1, 0) := by
  unfold m_SJ_value
  rw [if_neg h1, if_pos h2]
  by_cases h3 : fl = 0
  · rw [if_pos h3]
    unfold m_SJ_value_j34
    rw [pf4_has1 v]
    rfl
  · rw [if_neg h3]
    unfold m_SJ_value_j34v7
    rw [pf4_has0 v]
    rfl
theorem pf3_in4 (k n : Int32) (h : k < 0 ∨ ¬ k ≤ n) : m_MM_in k 0 n = some 0 := by
  unfold m_MM_in
  by_cases h1 : k < 0
  · rw [if_pos h1]
  · rw [if_neg h1, if_pos]
    have := h.resolve_left h1
    rw [Int32.le_iff_toInt_le] at this
    rw [Int32.lt_iff_toInt_lt]
    omega
theorem pf3_in5 (k n : Int32) (h1 : ¬ k < 0) (h2 : k ≤ n) : m_MM_in k 0 n = some 1 := by
  unfold m_MM_in
  rw [if_neg h1, if_neg]
  rw [Int32.le_iff_toInt_le] at h2
  rw [Int32.lt_iff_toInt_lt]
  omega
set_option maxRecDepth 100000 in
theorem pf2_value2 (sd : Nat → Nat) (fl v w : Int32) (h : w < 0 ∨ ¬ w ≤ 4) : ∃ Mm', m_MM_value fl v w z_M0 z_M1 (z_Mm sd) = some (0, Mm') ∧ m_MM_thrown Mm' = some 1 := by
  unfold m_MM_value
  by_cases h3 : fl = 0
  · rw [if_pos h3]
    unfold m_MM_value_j20
    rw [pf3_in4 w 4 h]
    exact ⟨_, rfl, rfl⟩
  · rw [if_neg h3]
    unfold m_MM_value_j20v5
    rw [pf3_in4 w 4 h]
    exact ⟨_, rfl, rfl⟩
set_option maxRecDepth 100000 in
theorem pf2_value1 (sd : Nat → Nat) (fl v w : Int32) (h1 : ¬ w < 0) (h2 : w ≤ 4) : ∃ Mm', m_MM_value fl v w z_M0 z_M1 (z_Mm sd) = some (0, Mm') ∧ m_MM_thrown Mm' = some 2 := by
  unfold m_MM_value
  by_cases h3 : fl = 0
  · rw [if_pos h3]
    unfold m_MM_value_j20
    rw [pf3_in5 w 4 h1 h2]
    show ∃ Mm', (o_bd (m_MM_in v (0:Int32) (-1)) _) = some (0, Mm') ∧ _
    rw [pf3_in v]
    exact ⟨_, rfl, rfl⟩
  · rw [if_neg h3]
    unfold m_MM_value_j20v5
    rw [pf3_in5 w 4 h1 h2]
    show ∃ Mm', (o_bd (m_MM_in v (0:Int32) (-1)) _) = some (0, Mm') ∧ _
    rw [pf3_in v]
    exact ⟨_, rfl, rfl⟩
theorem pf1_alike (v w : Int32) : m_SJ_alike 64 v w z_T1 = some (1, 0) := by
  unfold m_SJ_alike
  rw [pf4_has1 v]
  rfl
set_option maxRecDepth 100000 in
theorem pf2_alike (sd : Nat → Nat) (v w : Int32) : ∃ Mm', m_MM_alike v w z_M1 (z_Mm sd) = some (0, Mm') ∧ m_MM_thrown Mm' = some 1 := by
  unfold m_MM_alike
  rw [show m_MM_in v (0:Int32) (MT_values z_M1 - (1:Int32)) = some 0 from pf3_in v]
  exact ⟨_, rfl, rfl⟩
theorem pf1_matches (v w : Int32) : m_SJ_matches 64 v w z_T1 z_Pg z_Pt = some (1, 0, z_Pg, z_Pt) := by
  unfold m_SJ_matches
  rw [pf4_has1 v]
  rfl
set_option maxRecDepth 100000 in
theorem pf2_matches (sd : Nat → Nat) (v w : Int32) : ∃ Mm', m_MM_matches_1 v w z_M1 (z_Mm sd) = some (0, Mm') ∧ m_MM_thrown Mm' = some 1 := by
  unfold m_MM_matches_1
  rw [show m_MM_in v (0:Int32) (MT_values z_M1 - (1:Int32)) = some 0 from pf3_in v]
  exact ⟨_, rfl, rfl⟩
theorem pi_03 {k : Int32} (h1 : ¬ k < 0) (h2 : k ≤ 3) : k = 0 ∨ k = 1 ∨ k = 2 ∨ k = 3 := by
  simp only [Int32.lt_iff_toInt_lt] at h1
  rw [Int32.le_iff_toInt_le] at h2
  simp only [← Int32.toInt_inj]
  have e0 : (0:Int32).toInt = 0 := rfl
  have e1 : (1:Int32).toInt = 1 := rfl
  have e2 : (2:Int32).toInt = 2 := rfl
  have e3 : (3:Int32).toInt = 3 := rfl
  omega
set_option maxRecDepth 100000 in
theorem pf_count0 (sd : Nat → Nat) (k : Int32) (h1 : ¬ k < 0) (h2 : k ≤ 3) : m_SJ_count k z_T0 z_T1 z_Jd = some (0, 0) ∧ ∃ Mm', m_MM_count k z_M0 z_M1 (z_Mm sd) = some (0, Mm') ∧ m_MM_thrown Mm' = some 0 := by
  rcases pi_03 h1 h2 with rfl | rfl | rfl | rfl <;> exact ⟨rfl, _, rfl, rfl⟩
theorem pf1_count2 (k : Int32) (h : k < 0 ∨ ¬ k ≤ 3) : m_SJ_count k z_T0 z_T1 z_Jd = some (2, 0) := by
  have n0 : ¬ k = 0 := by rintro rfl; exact h.elim (by decide) (by decide)
  have n1 : ¬ k = 1 := by rintro rfl; exact h.elim (by decide) (by decide)
  have n2 : ¬ k = 2 := by rintro rfl; exact h.elim (by decide) (by decide)
  have n3 : ¬ k = 3 := by rintro rfl; exact h.elim (by decide) (by decide)
  unfold m_SJ_count
  rw [if_neg n0, if_neg n1, if_neg n2, if_neg n3]
set_option maxRecDepth 100000 in
theorem pf2_count2 (sd : Nat → Nat) (k : Int32) (h : k < 0 ∨ ¬ k ≤ 3) : ∃ Mm', m_MM_count k z_M0 z_M1 (z_Mm sd) = some (0, Mm') ∧ m_MM_thrown Mm' = some 1 := by
  unfold m_MM_count
  rw [pf3_in4 k 3 h]
  exact ⟨_, rfl, rfl⟩
