/-! The reference's end: a text is read -/
def GT (s : SMT) : Prop := I_MT s ∧ T_MT s ∧ DZ s
theorem o_okA {α : Type} {o : Option α} {P Q : α → Prop} (h : o_ok o P) (g : o_pc o Q) : o_ok o (fun r => P r ∧ Q r) := by
  obtain ⟨r, e, hr⟩ := h
  exact ⟨r, e, hr, g r e⟩
def ENP (x2 : Int32) (M0 : SMT) (Ni : SNI) (Nf : SNF) (r : Int32 × SMT × SMT × SNI × SNF) : Prop := GT r.2.1 ∧ GT r.2.2.1 ∧ I_NI r.2.2.2.1 ∧ NI_fed r.2.2.2.1 = (if 0 ≤ x2 ∧ x2 ≤ 8192 ∧ x2 ≤ NI_fed Ni then 0 else NI_fed Ni) ∧ (NF_checked r.2.2.2.2 ≠ 0 → r.2.1 = M0 ∧ NF_checked r.2.2.2.2 = NF_checked Nf)
def E1 (M0 : SMT) (z : Int32 × SMT × SMT) : Prop := 0 ≤ z.1 ∧ z.2.1 = M0 ∧ GT z.2.2
def E2 (M1 : SMT) (z : Int32 × SMT × SMT) : Prop := 0 ≤ z.1 ∧ z.2.2 = M1 ∧ GT z.2.1
theorem GT_text {s : SMT} {f : Nat → Int32} (h : GT s) : GT (MT_mk f (MT_kind s) (MT_place s) (MT_many s) (MT_parent s) (MT_power s) (MT_first s) (MT_next s) (MT_name s) (MT_from s) (MT_characters s) (MT_digits s) (MT_minus s) (MT_values s) (MT_letters s) (MT_at s) (MT_wrong s) (MT_used s) (MT_written s) (MT_left s)) := ⟨h.1, h.2.1, h.2.2⟩
theorem a8 {x y : Int32} (h : 0 ≤ x) (h1 : ¬ y ≤ x) (h2 : y ≤ 8192) : x < 8196 ∧ x < 8200 ∧ 0 ≤ x + 1 ∧ x < x + 1 := by
  refine ⟨?_, ?_, ?_, ?_⟩ <;> grind
theorem s_end63 {n : Nat} {x1 x2 : Int32} {M0 M1 : SMT} {Ni : SNI} {Nf : SNF} (hn : o_big ≤ n) (h2 : x2 ≤ 8192) (h : GT M1) : o_ok (o_lp n (m_MM_end_b63 n x1 x2 Ni Nf) ((0:Int32), M0, M1)) (fun q => q.1 ≠ 0 ∧ E1 M0 q.2) := by
  refine o_lpR (E1 M0) (fun z => o_mu z.1) hn o_muB ⟨Int32.le_refl _, rfl, h⟩ ?_
  intro z ⟨z0, z1, z2⟩
  unfold m_MM_end_b63
  refine o_okI (fun _ => o_okS ⟨fun e => absurd e (Nat.succ_ne_zero 0), fun _ => ⟨z0, z1, z2⟩⟩) (fun c => ?_)
  obtain ⟨b1, b2, b3, b4⟩ := a8 z0 c h2
  exact o_okG (o_inM (m := 8200) rfl z0 b2) (o_okG (o_inM (m := 8196) rfl z0 b1) (o_okN (fun u eu => o_okS ⟨fun _ => ⟨⟨by show 0 ≤ u; rw [eu]; exact b3, z1, GT_text z2⟩, by show o_mu u < _; rw [eu]; exact o_muL b4⟩, fun e => absurd rfl e⟩)))
theorem s_end63v {n : Nat} {x1 x2 : Int32} {M0 M1 : SMT} {Ni : SNI} {Nf : SNF} (hn : o_big ≤ n) (h2 : x2 ≤ 8192) (h : GT M0) : o_ok (o_lp n (m_MM_end_b63v5 n x1 x2 Ni Nf) ((0:Int32), M0, M1)) (fun q => q.1 ≠ 0 ∧ E2 M1 q.2) := by
  refine o_lpR (E2 M1) (fun z => o_mu z.1) hn o_muB ⟨Int32.le_refl _, rfl, h⟩ ?_
  intro z ⟨z0, z1, z2⟩
  unfold m_MM_end_b63v5
  refine o_okI (fun _ => o_okS ⟨fun e => absurd e (Nat.succ_ne_zero 0), fun _ => ⟨z0, z1, z2⟩⟩) (fun c => ?_)
  obtain ⟨b1, b2, b3, b4⟩ := a8 z0 c h2
  exact o_okG (o_inM (m := 8200) rfl z0 b2) (o_okG (o_inM (m := 8196) rfl z0 b1) (o_okN (fun u eu => o_okS ⟨fun _ => ⟨⟨by show 0 ≤ u; rw [eu]; exact b3, z1, GT_text z2⟩, by show o_mu u < _; rw [eu]; exact o_muL b4⟩, fun e => absurd rfl e⟩)))
theorem s_read {n : Nat} {x2 : Int32} {s : SMT} (hn : o_big ≤ n) (h0 : 0 ≤ x2) (h2 : x2 ≤ 8192) (h : GT s) : o_ok (m_MT_read n x2 s) (fun r => GT r.2) :=
  o_okW (o_okA (s_MT_read hn h0 h2) (c_read h.2.2.1)) (fun _ hr => ⟨hr.1.1, hr.1.2, hr.2⟩)
theorem s_MM_end {n : Nat} {x1 x2 : Int32} {M0 M1 : SMT} {Ni : SNI} {Nf : SNF} (hn : o_big ≤ n) (hM0 : GT M0) (hM1 : GT M1) (hN : I_NI Ni) : o_ok (m_MM_end n x1 x2 M0 M1 Ni Nf) (ENP x2 M0 Ni Nf) := by
  have i := sc_NI hN
  have j30 : ∀ y : Int32, (y = 0 ↔ 0 ≤ x2 ∧ x2 ≤ 8192 ∧ x2 ≤ NI_fed Ni) → o_ok (m_MM_end_j30 n x1 x2 y M0 M1 (NI_mk (0:Int32) (NI_fed Ni) (NI_wrong Ni) (NI_octets Ni)) Nf) (ENP x2 M0 Ni Nf) := by
    intro y hy
    unfold m_MM_end_j30
    refine o_okB (s_MM_fails (Ni := NI_mk (0:Int32) (NI_fed Ni) (NI_wrong Ni) (NI_octets Ni)) hN (show (1:Int32) ≠ 0 by decide)) ?_
    intro q1 ⟨_, e2, e3, e4, _, e6⟩
    refine o_okI (fun e => ?_) (fun ne => o_okS ⟨hM0, hM1, e6, ?_, fun _ => ⟨rfl, rfl⟩⟩)
    · obtain ⟨b0, b1, b2⟩ := hy.mp (e2 e)
      have pif : (if 0 ≤ x2 ∧ x2 ≤ 8192 ∧ x2 ≤ NI_fed Ni then 0 else NI_fed Ni) = 0 := if_pos ⟨b0, b1, b2⟩
      have iN : ∀ (a w : Int32) (o : Nat → Int32), I_NI (NI_mk a (0:Int32) w o) := fun _ _ _ => (show (0:Int32) ≤ 0 ∧ (0:Int32) ≤ 8200 by decide)
      have j125 : ∀ (y a w : Int32) (o : Nat → Int32) (A B : SMT) (Nf' : SNF), GT A → GT B → (NF_checked Nf' ≠ 0 → A = M0 ∧ NF_checked Nf' = NF_checked Nf) → o_ok (m_MM_end_j125 n y A B (NI_mk a (0:Int32) w o) Nf') (ENP x2 M0 Ni Nf) := by
        intro y a w o A B Nf' hA hB hc
        unfold m_MM_end_j125
        refine o_okB (s_MM_fails (iN a w o) (show (2:Int32) ≠ 0 by decide)) ?_
        intro q ⟨_, _, _, f4, _, f6⟩
        exact o_okI (fun _ => o_okS ⟨hA, hB, f6, by rw [pif]; exact f4, hc⟩) (fun _ => o_okS ⟨hA, hB, f6, by rw [pif]; exact f4, hc⟩)
      have j125v : ∀ (y a w : Int32) (o : Nat → Int32) (A B : SMT) (Nf' : SNF), GT A → GT B → (NF_checked Nf' ≠ 0 → A = M0 ∧ NF_checked Nf' = NF_checked Nf) → o_ok (m_MM_end_j125v9 n y A B (NI_mk a (0:Int32) w o) Nf') (ENP x2 M0 Ni Nf) := by
        intro y a w o A B Nf' hA hB hc
        unfold m_MM_end_j125v9
        refine o_okB (s_MM_fails (iN a w o) (show (2:Int32) ≠ 0 by decide)) ?_
        intro q ⟨_, _, _, f4, _, f6⟩
        exact o_okI (fun _ => o_okS ⟨hA, hB, f6, by rw [pif]; exact f4, hc⟩) (fun _ => o_okS ⟨hA, hB, f6, by rw [pif]; exact f4, hc⟩)
      refine o_okI (fun e1 => ?_) (fun ne1 => ?_)
      · refine o_okB (s_end63 hn b1 hM1) ?_
        intro q2 ⟨_, _, r1, r2⟩
        refine o_okI (fun _ => ?_) (fun ne => absurd e1 ne)
        unfold m_MM_end_j103
        refine o_okB (s_read hn b0 b1 r2) ?_
        intro q3 h3
        have r1 : q2.2.2.1 = M0 := r1
        have hA : GT q2.2.2.1 := by rw [r1]; exact hM0
        exact o_okI (fun _ => j125 _ _ _ _ _ _ _ hA h3 (fun _ => ⟨r1, rfl⟩)) (fun _ => j125 _ _ _ _ _ _ _ hA h3 (fun _ => ⟨r1, rfl⟩))
      · refine o_okB (s_end63v hn b1 hM0) ?_
        intro q2 ⟨_, _, r1, r2⟩
        refine o_okI (fun e => absurd e ne1) (fun _ => ?_)
        unfold m_MM_end_j103v7
        refine o_okB (s_read hn b0 b1 r2) ?_
        intro q3 h3
        have r1 : q2.2.2.2 = M1 := r1
        have hB : GT q2.2.2.2 := by rw [r1]; exact hM1
        exact o_okI (fun _ => j125v _ _ _ _ _ _ _ h3 hB (fun c => absurd rfl c)) (fun _ => j125v _ _ _ _ _ _ _ h3 hB (fun c => absurd rfl c))
    · show NI_fed q1.2 = _
      rw [e4]
      have nif : ¬ (0 ≤ x2 ∧ x2 ≤ 8192 ∧ x2 ≤ NI_fed Ni) := by
        intro hc
        rcases e3 ne with c | c
        · exact c (hy.mpr hc)
        · exact c rfl
      rw [if_neg nif]
  unfold m_MM_end
  have one : ∀ P : Prop, ¬ P → ((1:Int32) = 0 ↔ P) := fun P h => ⟨fun e => absurd e (by decide), fun c => absurd c h⟩
  refine o_okI (fun c => j30 1 (one _ (fun d => absurd d.1 (Int32.not_le.mpr c)))) (fun c1 => o_okI (fun c => j30 1 (one _ (fun d => absurd d.2.1 (Int32.not_le.mpr c)))) (fun c2 => o_okI (fun c3 => j30 0 ⟨fun _ => ⟨Int32.not_lt.mp c1, Int32.not_lt.mp c2, c3⟩, fun _ => rfl⟩) (fun c3 => j30 1 (one _ (fun d => absurd d.2.2 c3)))))
