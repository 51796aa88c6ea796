set_option maxHeartbeats 4000000 in
set_option maxRecDepth 100000 in
theorem e_MM_escape_b {E : (Nat → Prop) → State → Heap → Prop} {D : va_G} {ad kd sd vd xd : Nat → Nat} {ca : Nat → ClassId} {ky ty : Nat → Option Nat} (hE : o_EK E kd sd vd xd) (hKy : m_KY ky ty sd) (l : Launch) (n : Nat) (x1 : Int32) (tc : SMT) (Np : SNP) (Ni : SNI) (No : SNO) (Nx : SNX) (Nf : SNF) (Na : SNA) (Nh : SNH) (Nq : SNQ) (Nj : SNJ) (M0 : SMT) {r : Int32 × SNP} (h : m_MM_escape n x1 tc Np = some r) : o_Cn E l D m_cls (m_tys ca) y_MM_escape cc_MM_escape rm_MM_escape [.ref (ad 0), .int x1] (m_cw ad ca ky ty 48 Ni Np No Nx Nf Na Nh Nq Nj M0 tc) (m_cw ad ca ky ty 48 Ni r.2 No Nx Nf Na Nh Nq Nj M0 tc) (some (.int r.1)) := by
  refine o_Cn_of (by decide) (Nat.le_of_ble_eq_true rfl) ?_
  intro p e s m below meth c A ls C hD hP hS hl
  have hDD : ∀ (rt : Nat) (Ni : SNI) (Np : SNP) (No : SNO) (Nx : SNX) (Nf : SNF) (Na : SNA) (Nh : SNH) (Nq : SNQ) (Nj : SNJ) (M0 : SMT) (M1 : SMT), va_D A (m_cw ad ca ky ty rt Ni Np No Nx Nf Na Nh Nq Nj M0 M1) := fun _ _ _ _ _ _ _ _ _ _ _ _ => o_D_map hD rfl
  have hl : lv_has ls 3 [(0, .ref (ad 0)), (1, .int x1)] := hl
  unfold m_MM_escape at h
  have C0 := C
  obtain ⟨hx, hb, -, -, -, hown, hts, hK, -, -⟩ := C0
  refine lv_aload_n hx hb d_MM_escape_0 rfl (lv_at hl 0 rfl) ?_
  refine lv_iconst (v := (0:Int32)) hx hb d_MM_escape_1 (by decide) ?_
  obtain ⟨q1, hq1, h⟩ := o_bd_some h
  refine o_V (st1 := [.int q1]) (w1 := (m_cw ad ca ky ty 48 Ni Np No Nx Nf Na Nh Nq Nj M0 tc)) hE.1 C (e_MM_p_b hE hKy l (0:Int32) tc Np Ni No Nx Nf Na Nh Nq Nj M0 hq1) hP (hDD _ _ _ _ _ _ _ _ _ _ _ _) hS hl.1 rfl mw_0 k_9_70 k_9_72 k_s_89 k_1_12 k_9_73 hv_MM_p rfl rfl ⟨(Nat.le_of_ble_eq_true rfl), (Nat.le_of_ble_eq_true rfl)⟩ rfl (Nat.le_of_ble_eq_true rfl) ⟨Nat.zero_le _, Nat.zero_le _⟩ rfl d_MM_escape_2 (fun H locs hP hS => ?_)
  refine lv_istore_n (lv' := [(2, .int q1), (0, .ref (ad 0)), (1, .int x1)]) hx hb d_MM_escape_5 rfl hl (by decide) rfl (fun ls hl => ?_)
  refine lv_aload_n hx hb d_MM_escape_6 rfl (lv_at hl 1 rfl) ?_
  refine lv_dup hx hb d_MM_escape_7 rfl ?_
  refine o_get (v := .int (NP_pat Np)) C in_MM hP 0 mw_0 rfl 27 (by decide) k_8_17 rfl rfl d_MM_escape_8 ?_
  refine lv_iconst (v := (1:Int32)) hx hb d_MM_escape_11 (by decide) ?_
  refine lv_iadd hx hb d_MM_escape_12 ?_
  refine o_put (v := .int ((NP_pat Np) + (1:Int32))) (ty := .int) (w1 := (m_cw ad ca ky ty 48 Ni (NP_mk (NP_nodeKind Np) (NP_nodeA Np) (NP_nodeB Np) (NP_nodeC Np) (NP_nodeNext Np) (NP_low Np) (NP_high Np) (NP_setFrom Np) (NP_setTo Np) (NP_setNot Np) (NP_nodes Np) (NP_sets Np) (NP_ranges Np) ((NP_pat Np) + (1:Int32)) (NP_patEnd Np) (NP_broken Np)) No Nx Nf Na Nh Nq Nj M0 tc)) C in_MM t_MM t_MM_ok n_MM hP (hDD _ _ _ _ _ _ _ _ _ _ _ _) hS 0 mw_0 rfl 27 (by decide) k_8_17 rfl rfl (by decide +kernel) rfl rfl (Nat.le_of_ble_eq_true rfl) rfl d_MM_escape_13 (fun H locs hP hS => ?_)
  refine lv_iload_n hx hb d_MM_escape_16 rfl (lv_at hl 0 rfl) ?_
  by_cases c1 : q1 = (36:Int32)
  · replace h := o_tt c1 h
    refine lv_tableIn (off := 456) (tgt := 473) hx hb d_MM_escape_17 (by rw [c1]; decide) (by rw [c1]; decide) (by rw [c1]; rfl) (by decide) ?_
    refine lv_iload_n hx hb d_MM_escape_473 rfl (lv_at hl 0 rfl) ?_
    cases h
    exact o_ri C hP hS d_MM_escape_474
  replace h := o_ff c1 h
  by_cases c2 : q1 = (37:Int32)
  · replace h := o_tt c2 h
    refine lv_tableIn (off := 458) (tgt := 475) hx hb d_MM_escape_17 (by rw [c2]; decide) (by rw [c2]; decide) (by rw [c2]; rfl) (by decide) ?_
    refine lv_aload_n hx hb d_MM_escape_475 rfl (lv_at hl 1 rfl) ?_
    refine lv_iconst (v := (1:Int32)) hx hb d_MM_escape_476 (by decide) ?_
    refine o_put (v := .int (1:Int32)) (ty := .boolean) (w1 := (m_cw ad ca ky ty 48 Ni (NP_mk (NP_nodeKind Np) (NP_nodeA Np) (NP_nodeB Np) (NP_nodeC Np) (NP_nodeNext Np) (NP_low Np) (NP_high Np) (NP_setFrom Np) (NP_setTo Np) (NP_setNot Np) (NP_nodes Np) (NP_sets Np) (NP_ranges Np) ((NP_pat Np) + (1:Int32)) (NP_patEnd Np) (1:Int32)) No Nx Nf Na Nh Nq Nj M0 tc)) C in_MM t_MM t_MM_ok n_MM hP (hDD _ _ _ _ _ _ _ _ _ _ _ _) hS 0 mw_0 rfl 32 (by decide) k_8_22 rfl rfl (by decide +kernel) rfl rfl (Nat.le_of_ble_eq_true rfl) rfl d_MM_escape_477 (fun H locs hP hS => ?_)
    refine lv_iconst (v := (0:Int32)) hx hb d_MM_escape_480 (by decide) ?_
    cases h
    exact o_ri (v := (0:Int32)) C hP hS d_MM_escape_481
  replace h := o_ff c2 h
  by_cases c3 : q1 = (38:Int32)
  · replace h := o_tt c3 h
    refine lv_tableIn (off := 458) (tgt := 475) hx hb d_MM_escape_17 (by rw [c3]; decide) (by rw [c3]; decide) (by rw [c3]; rfl) (by decide) ?_
    refine lv_aload_n hx hb d_MM_escape_475 rfl (lv_at hl 1 rfl) ?_
    refine lv_iconst (v := (1:Int32)) hx hb d_MM_escape_476 (by decide) ?_
    refine o_put (v := .int (1:Int32)) (ty := .boolean) (w1 := (m_cw ad ca ky ty 48 Ni (NP_mk (NP_nodeKind Np) (NP_nodeA Np) (NP_nodeB Np) (NP_nodeC Np) (NP_nodeNext Np) (NP_low Np) (NP_high Np) (NP_setFrom Np) (NP_setTo Np) (NP_setNot Np) (NP_nodes Np) (NP_sets Np) (NP_ranges Np) ((NP_pat Np) + (1:Int32)) (NP_patEnd Np) (1:Int32)) No Nx Nf Na Nh Nq Nj M0 tc)) C in_MM t_MM t_MM_ok n_MM hP (hDD _ _ _ _ _ _ _ _ _ _ _ _) hS 0 mw_0 rfl 32 (by decide) k_8_22 rfl rfl (by decide +kernel) rfl rfl (Nat.le_of_ble_eq_true rfl) rfl d_MM_escape_477 (fun H locs hP hS => ?_)
    refine lv_iconst (v := (0:Int32)) hx hb d_MM_escape_480 (by decide) ?_
    cases h
    exact o_ri (v := (0:Int32)) C hP hS d_MM_escape_481
  replace h := o_ff c3 h
  by_cases c4 : q1 = (39:Int32)
  · replace h := o_tt c4 h
    refine lv_tableIn (off := 458) (tgt := 475) hx hb d_MM_escape_17 (by rw [c4]; decide) (by rw [c4]; decide) (by rw [c4]; rfl) (by decide) ?_
    refine lv_aload_n hx hb d_MM_escape_475 rfl (lv_at hl 1 rfl) ?_
    refine lv_iconst (v := (1:Int32)) hx hb d_MM_escape_476 (by decide) ?_
    refine o_put (v := .int (1:Int32)) (ty := .boolean) (w1 := (m_cw ad ca ky ty 48 Ni (NP_mk (NP_nodeKind Np) (NP_nodeA Np) (NP_nodeB Np) (NP_nodeC Np) (NP_nodeNext Np) (NP_low Np) (NP_high Np) (NP_setFrom Np) (NP_setTo Np) (NP_setNot Np) (NP_nodes Np) (NP_sets Np) (NP_ranges Np) ((NP_pat Np) + (1:Int32)) (NP_patEnd Np) (1:Int32)) No Nx Nf Na Nh Nq Nj M0 tc)) C in_MM t_MM t_MM_ok n_MM hP (hDD _ _ _ _ _ _ _ _ _ _ _ _) hS 0 mw_0 rfl 32 (by decide) k_8_22 rfl rfl (by decide +kernel) rfl rfl (Nat.le_of_ble_eq_true rfl) rfl d_MM_escape_477 (fun H locs hP hS => ?_)
    refine lv_iconst (v := (0:Int32)) hx hb d_MM_escape_480 (by decide) ?_
    cases h
    exact o_ri (v := (0:Int32)) C hP hS d_MM_escape_481
  replace h := o_ff c4 h
  by_cases c5 : q1 = (40:Int32)
  · replace h := o_tt c5 h
    refine lv_tableIn (off := 456) (tgt := 473) hx hb d_MM_escape_17 (by rw [c5]; decide) (by rw [c5]; decide) (by rw [c5]; rfl) (by decide) ?_
    refine lv_iload_n hx hb d_MM_escape_473 rfl (lv_at hl 0 rfl) ?_
    cases h
    exact o_ri C hP hS d_MM_escape_474
  replace h := o_ff c5 h
  by_cases c6 : q1 = (41:Int32)
  · replace h := o_tt c6 h
    refine lv_tableIn (off := 456) (tgt := 473) hx hb d_MM_escape_17 (by rw [c6]; decide) (by rw [c6]; decide) (by rw [c6]; rfl) (by decide) ?_
    refine lv_iload_n hx hb d_MM_escape_473 rfl (lv_at hl 0 rfl) ?_
    cases h
    exact o_ri C hP hS d_MM_escape_474
  replace h := o_ff c6 h
  by_cases c7 : q1 = (42:Int32)
  · replace h := o_tt c7 h
    refine lv_tableIn (off := 456) (tgt := 473) hx hb d_MM_escape_17 (by rw [c7]; decide) (by rw [c7]; decide) (by rw [c7]; rfl) (by decide) ?_
    refine lv_iload_n hx hb d_MM_escape_473 rfl (lv_at hl 0 rfl) ?_
    cases h
    exact o_ri C hP hS d_MM_escape_474
  replace h := o_ff c7 h
  by_cases c8 : q1 = (43:Int32)
  · replace h := o_tt c8 h
    refine lv_tableIn (off := 456) (tgt := 473) hx hb d_MM_escape_17 (by rw [c8]; decide) (by rw [c8]; decide) (by rw [c8]; rfl) (by decide) ?_
    refine lv_iload_n hx hb d_MM_escape_473 rfl (lv_at hl 0 rfl) ?_
    cases h
    exact o_ri C hP hS d_MM_escape_474
  replace h := o_ff c8 h
  by_cases c9 : q1 = (44:Int32)
  · replace h := o_tt c9 h
    refine lv_tableIn (off := 458) (tgt := 475) hx hb d_MM_escape_17 (by rw [c9]; decide) (by rw [c9]; decide) (by rw [c9]; rfl) (by decide) ?_
    refine lv_aload_n hx hb d_MM_escape_475 rfl (lv_at hl 1 rfl) ?_
    refine lv_iconst (v := (1:Int32)) hx hb d_MM_escape_476 (by decide) ?_
    refine o_put (v := .int (1:Int32)) (ty := .boolean) (w1 := (m_cw ad ca ky ty 48 Ni (NP_mk (NP_nodeKind Np) (NP_nodeA Np) (NP_nodeB Np) (NP_nodeC Np) (NP_nodeNext Np) (NP_low Np) (NP_high Np) (NP_setFrom Np) (NP_setTo Np) (NP_setNot Np) (NP_nodes Np) (NP_sets Np) (NP_ranges Np) ((NP_pat Np) + (1:Int32)) (NP_patEnd Np) (1:Int32)) No Nx Nf Na Nh Nq Nj M0 tc)) C in_MM t_MM t_MM_ok n_MM hP (hDD _ _ _ _ _ _ _ _ _ _ _ _) hS 0 mw_0 rfl 32 (by decide) k_8_22 rfl rfl (by decide +kernel) rfl rfl (Nat.le_of_ble_eq_true rfl) rfl d_MM_escape_477 (fun H locs hP hS => ?_)
    refine lv_iconst (v := (0:Int32)) hx hb d_MM_escape_480 (by decide) ?_
    cases h
    exact o_ri (v := (0:Int32)) C hP hS d_MM_escape_481
  replace h := o_ff c9 h
  by_cases c10 : q1 = (45:Int32)
  · replace h := o_tt c10 h
    refine lv_tableIn (off := 444) (tgt := 461) hx hb d_MM_escape_17 (by rw [c10]; decide) (by rw [c10]; decide) (by rw [c10]; rfl) (by decide) ?_
    refine lv_iload_n hx hb d_MM_escape_461 rfl (lv_at hl 2 rfl) ?_
    refine lv_if_ne (tgt := 470) hx hb d_MM_escape_462 (by decide) (fun c11 => ?_) (fun c11 => ?_)
    · replace h := o_ff c11 h
      refine lv_bipush (v := (45:Int32)) hx hb d_MM_escape_470 (by decide) ?_
      cases h
      exact o_ri (v := (45:Int32)) C hP hS d_MM_escape_472
    · replace h := o_tt c11 h
      refine lv_aload_n hx hb d_MM_escape_465 rfl (lv_at hl 1 rfl) ?_
      refine lv_iconst (v := (1:Int32)) hx hb d_MM_escape_466 (by decide) ?_
      refine o_put (v := .int (1:Int32)) (ty := .boolean) (w1 := (m_cw ad ca ky ty 48 Ni (NP_mk (NP_nodeKind Np) (NP_nodeA Np) (NP_nodeB Np) (NP_nodeC Np) (NP_nodeNext Np) (NP_low Np) (NP_high Np) (NP_setFrom Np) (NP_setTo Np) (NP_setNot Np) (NP_nodes Np) (NP_sets Np) (NP_ranges Np) ((NP_pat Np) + (1:Int32)) (NP_patEnd Np) (1:Int32)) No Nx Nf Na Nh Nq Nj M0 tc)) C in_MM t_MM t_MM_ok n_MM hP (hDD _ _ _ _ _ _ _ _ _ _ _ _) hS 0 mw_0 rfl 32 (by decide) k_8_22 rfl rfl (by decide +kernel) rfl rfl (Nat.le_of_ble_eq_true rfl) rfl d_MM_escape_467 (fun H locs hP hS => ?_)
      refine lv_bipush (v := (45:Int32)) hx hb d_MM_escape_470 (by decide) ?_
      cases h
      exact o_ri (v := (45:Int32)) C hP hS d_MM_escape_472
  replace h := o_ff c10 h
  by_cases c12 : q1 = (46:Int32)
  · replace h := o_tt c12 h
    refine lv_tableIn (off := 456) (tgt := 473) hx hb d_MM_escape_17 (by rw [c12]; decide) (by rw [c12]; decide) (by rw [c12]; rfl) (by decide) ?_
    refine lv_iload_n hx hb d_MM_escape_473 rfl (lv_at hl 0 rfl) ?_
    cases h
    exact o_ri C hP hS d_MM_escape_474
  replace h := o_ff c12 h
  by_cases c13 : q1 = (47:Int32)
  · replace h := o_tt c13 h
    refine lv_tableIn (off := 456) (tgt := 473) hx hb d_MM_escape_17 (by rw [c13]; decide) (by rw [c13]; decide) (by rw [c13]; rfl) (by decide) ?_
    refine lv_iload_n hx hb d_MM_escape_473 rfl (lv_at hl 0 rfl) ?_
    cases h
    exact o_ri C hP hS d_MM_escape_474
  replace h := o_ff c13 h
  by_cases c14 : q1 = (48:Int32)
  · replace h := o_tt c14 h
    refine lv_tableIn (off := 397) (tgt := 414) hx hb d_MM_escape_17 (by rw [c14]; decide) (by rw [c14]; decide) (by rw [c14]; rfl) (by decide) ?_
    refine lv_aload_n hx hb d_MM_escape_414 rfl (lv_at hl 1 rfl) ?_
    refine lv_iconst (v := (0:Int32)) hx hb d_MM_escape_415 (by decide) ?_
    obtain ⟨q2, hq2, h⟩ := o_bd_some h
    refine o_V (st1 := [.int q2]) (w1 := (m_cw ad ca ky ty 48 Ni (NP_mk (NP_nodeKind Np) (NP_nodeA Np) (NP_nodeB Np) (NP_nodeC Np) (NP_nodeNext Np) (NP_low Np) (NP_high Np) (NP_setFrom Np) (NP_setTo Np) (NP_setNot Np) (NP_nodes Np) (NP_sets Np) (NP_ranges Np) ((NP_pat Np) + (1:Int32)) (NP_patEnd Np) (NP_broken Np)) No Nx Nf Na Nh Nq Nj M0 tc)) hE.1 C (e_MM_p_b hE hKy l (0:Int32) tc (NP_mk (NP_nodeKind Np) (NP_nodeA Np) (NP_nodeB Np) (NP_nodeC Np) (NP_nodeNext Np) (NP_low Np) (NP_high Np) (NP_setFrom Np) (NP_setTo Np) (NP_setNot Np) (NP_nodes Np) (NP_sets Np) (NP_ranges Np) ((NP_pat Np) + (1:Int32)) (NP_patEnd Np) (NP_broken Np)) Ni No Nx Nf Na Nh Nq Nj M0 hq2) hP (hDD _ _ _ _ _ _ _ _ _ _ _ _) hS hl.1 rfl mw_0 k_9_70 k_9_72 k_s_89 k_1_12 k_9_73 hv_MM_p rfl rfl ⟨(Nat.le_of_ble_eq_true rfl), (Nat.le_of_ble_eq_true rfl)⟩ rfl (Nat.le_of_ble_eq_true rfl) ⟨Nat.zero_le _, Nat.zero_le _⟩ rfl d_MM_escape_416 (fun H locs hP hS => ?_)
    refine lv_bipush (v := (48:Int32)) hx hb d_MM_escape_419 (by decide) ?_
    refine lv_bipush (v := (57:Int32)) hx hb d_MM_escape_421 (by decide) ?_
    obtain ⟨q3, hq3, h⟩ := o_bd_some h
    refine o_S (st1 := [.int q3]) (w1 := (m_cw ad ca ky ty 48 Ni (NP_mk (NP_nodeKind Np) (NP_nodeA Np) (NP_nodeB Np) (NP_nodeC Np) (NP_nodeNext Np) (NP_low Np) (NP_high Np) (NP_setFrom Np) (NP_setTo Np) (NP_setNot Np) (NP_nodes Np) (NP_sets Np) (NP_ranges Np) ((NP_pat Np) + (1:Int32)) (NP_patEnd Np) (NP_broken Np)) No Nx Nf Na Nh Nq Nj M0 tc)) hE.1 C (e_MM_in hE hKy l q2 (48:Int32) (57:Int32) Ni (NP_mk (NP_nodeKind Np) (NP_nodeA Np) (NP_nodeB Np) (NP_nodeC Np) (NP_nodeNext Np) (NP_low Np) (NP_high Np) (NP_setFrom Np) (NP_setTo Np) (NP_setNot Np) (NP_nodes Np) (NP_sets Np) (NP_ranges Np) ((NP_pat Np) + (1:Int32)) (NP_patEnd Np) (NP_broken Np)) No Nx Nf Na Nh Nq Nj M0 tc 48 hq3) hP (hDD _ _ _ _ _ _ _ _ _ _ _ _) hS hl.1 k_9_41 k_8_201 k_1_12 k_8_202 hs_MM_in rfl rfl ⟨(Nat.le_of_ble_eq_true rfl), (Nat.le_of_ble_eq_true rfl)⟩ rfl (Nat.le_of_ble_eq_true rfl) ⟨Nat.zero_le _, Nat.zero_le _⟩ rfl d_MM_escape_423 (fun H locs hP hS => ?_)
    refine lv_if_eq (tgt := 434) hx hb d_MM_escape_426 (by decide) (fun c15 => ?_) (fun c15 => ?_)
    · replace h := o_tt c15 h
      refine lv_iconst (v := (0:Int32)) hx hb d_MM_escape_434 (by decide) ?_
      cases h
      exact o_ri (v := (0:Int32)) C hP hS d_MM_escape_435
    · replace h := o_ff c15 h
      refine lv_aload_n hx hb d_MM_escape_429 rfl (lv_at hl 1 rfl) ?_
      refine lv_iconst (v := (1:Int32)) hx hb d_MM_escape_430 (by decide) ?_
      refine o_put (v := .int (1:Int32)) (ty := .boolean) (w1 := (m_cw ad ca ky ty 48 Ni (NP_mk (NP_nodeKind Np) (NP_nodeA Np) (NP_nodeB Np) (NP_nodeC Np) (NP_nodeNext Np) (NP_low Np) (NP_high Np) (NP_setFrom Np) (NP_setTo Np) (NP_setNot Np) (NP_nodes Np) (NP_sets Np) (NP_ranges Np) ((NP_pat Np) + (1:Int32)) (NP_patEnd Np) (1:Int32)) No Nx Nf Na Nh Nq Nj M0 tc)) C in_MM t_MM t_MM_ok n_MM hP (hDD _ _ _ _ _ _ _ _ _ _ _ _) hS 0 mw_0 rfl 32 (by decide) k_8_22 rfl rfl (by decide +kernel) rfl rfl (Nat.le_of_ble_eq_true rfl) rfl d_MM_escape_431 (fun H locs hP hS => ?_)
      refine lv_iconst (v := (0:Int32)) hx hb d_MM_escape_434 (by decide) ?_
      cases h
      exact o_ri (v := (0:Int32)) C hP hS d_MM_escape_435
  replace h := o_ff c14 h
  by_cases c16 : q1 = (49:Int32)
  · replace h := o_tt c16 h
    refine lv_tableIn (off := 458) (tgt := 475) hx hb d_MM_escape_17 (by rw [c16]; decide) (by rw [c16]; decide) (by rw [c16]; rfl) (by decide) ?_
    refine lv_aload_n hx hb d_MM_escape_475 rfl (lv_at hl 1 rfl) ?_
    refine lv_iconst (v := (1:Int32)) hx hb d_MM_escape_476 (by decide) ?_
    refine o_put (v := .int (1:Int32)) (ty := .boolean) (w1 := (m_cw ad ca ky ty 48 Ni (NP_mk (NP_nodeKind Np) (NP_nodeA Np) (NP_nodeB Np) (NP_nodeC Np) (NP_nodeNext Np) (NP_low Np) (NP_high Np) (NP_setFrom Np) (NP_setTo Np) (NP_setNot Np) (NP_nodes Np) (NP_sets Np) (NP_ranges Np) ((NP_pat Np) + (1:Int32)) (NP_patEnd Np) (1:Int32)) No Nx Nf Na Nh Nq Nj M0 tc)) C in_MM t_MM t_MM_ok n_MM hP (hDD _ _ _ _ _ _ _ _ _ _ _ _) hS 0 mw_0 rfl 32 (by decide) k_8_22 rfl rfl (by decide +kernel) rfl rfl (Nat.le_of_ble_eq_true rfl) rfl d_MM_escape_477 (fun H locs hP hS => ?_)
    refine lv_iconst (v := (0:Int32)) hx hb d_MM_escape_480 (by decide) ?_
    cases h
    exact o_ri (v := (0:Int32)) C hP hS d_MM_escape_481
  replace h := o_ff c16 h
  by_cases c17 : q1 = (50:Int32)
  · replace h := o_tt c17 h
    refine lv_tableIn (off := 458) (tgt := 475) hx hb d_MM_escape_17 (by rw [c17]; decide) (by rw [c17]; decide) (by rw [c17]; rfl) (by decide) ?_
    refine lv_aload_n hx hb d_MM_escape_475 rfl (lv_at hl 1 rfl) ?_
    refine lv_iconst (v := (1:Int32)) hx hb d_MM_escape_476 (by decide) ?_
    refine o_put (v := .int (1:Int32)) (ty := .boolean) (w1 := (m_cw ad ca ky ty 48 Ni (NP_mk (NP_nodeKind Np) (NP_nodeA Np) (NP_nodeB Np) (NP_nodeC Np) (NP_nodeNext Np) (NP_low Np) (NP_high Np) (NP_setFrom Np) (NP_setTo Np) (NP_setNot Np) (NP_nodes Np) (NP_sets Np) (NP_ranges Np) ((NP_pat Np) + (1:Int32)) (NP_patEnd Np) (1:Int32)) No Nx Nf Na Nh Nq Nj M0 tc)) C in_MM t_MM t_MM_ok n_MM hP (hDD _ _ _ _ _ _ _ _ _ _ _ _) hS 0 mw_0 rfl 32 (by decide) k_8_22 rfl rfl (by decide +kernel) rfl rfl (Nat.le_of_ble_eq_true rfl) rfl d_MM_escape_477 (fun H locs hP hS => ?_)
    refine lv_iconst (v := (0:Int32)) hx hb d_MM_escape_480 (by decide) ?_
    cases h
    exact o_ri (v := (0:Int32)) C hP hS d_MM_escape_481
  replace h := o_ff c17 h
  by_cases c18 : q1 = (51:Int32)
  · replace h := o_tt c18 h
    refine lv_tableIn (off := 458) (tgt := 475) hx hb d_MM_escape_17 (by rw [c18]; decide) (by rw [c18]; decide) (by rw [c18]; rfl) (by decide) ?_
    refine lv_aload_n hx hb d_MM_escape_475 rfl (lv_at hl 1 rfl) ?_
    refine lv_iconst (v := (1:Int32)) hx hb d_MM_escape_476 (by decide) ?_
    refine o_put (v := .int (1:Int32)) (ty := .boolean) (w1 := (m_cw ad ca ky ty 48 Ni (NP_mk (NP_nodeKind Np) (NP_nodeA Np) (NP_nodeB Np) (NP_nodeC Np) (NP_nodeNext Np) (NP_low Np) (NP_high Np) (NP_setFrom Np) (NP_setTo Np) (NP_setNot Np) (NP_nodes Np) (NP_sets Np) (NP_ranges Np) ((NP_pat Np) + (1:Int32)) (NP_patEnd Np) (1:Int32)) No Nx Nf Na Nh Nq Nj M0 tc)) C in_MM t_MM t_MM_ok n_MM hP (hDD _ _ _ _ _ _ _ _ _ _ _ _) hS 0 mw_0 rfl 32 (by decide) k_8_22 rfl rfl (by decide +kernel) rfl rfl (Nat.le_of_ble_eq_true rfl) rfl d_MM_escape_477 (fun H locs hP hS => ?_)
    refine lv_iconst (v := (0:Int32)) hx hb d_MM_escape_480 (by decide) ?_
    cases h
    exact o_ri (v := (0:Int32)) C hP hS d_MM_escape_481
  replace h := o_ff c18 h
  by_cases c19 : q1 = (52:Int32)
  · replace h := o_tt c19 h
    refine lv_tableIn (off := 458) (tgt := 475) hx hb d_MM_escape_17 (by rw [c19]; decide) (by rw [c19]; decide) (by rw [c19]; rfl) (by decide) ?_
    refine lv_aload_n hx hb d_MM_escape_475 rfl (lv_at hl 1 rfl) ?_
    refine lv_iconst (v := (1:Int32)) hx hb d_MM_escape_476 (by decide) ?_
    refine o_put (v := .int (1:Int32)) (ty := .boolean) (w1 := (m_cw ad ca ky ty 48 Ni (NP_mk (NP_nodeKind Np) (NP_nodeA Np) (NP_nodeB Np) (NP_nodeC Np) (NP_nodeNext Np) (NP_low Np) (NP_high Np) (NP_setFrom Np) (NP_setTo Np) (NP_setNot Np) (NP_nodes Np) (NP_sets Np) (NP_ranges Np) ((NP_pat Np) + (1:Int32)) (NP_patEnd Np) (1:Int32)) No Nx Nf Na Nh Nq Nj M0 tc)) C in_MM t_MM t_MM_ok n_MM hP (hDD _ _ _ _ _ _ _ _ _ _ _ _) hS 0 mw_0 rfl 32 (by decide) k_8_22 rfl rfl (by decide +kernel) rfl rfl (Nat.le_of_ble_eq_true rfl) rfl d_MM_escape_477 (fun H locs hP hS => ?_)
    refine lv_iconst (v := (0:Int32)) hx hb d_MM_escape_480 (by decide) ?_
    cases h
    exact o_ri (v := (0:Int32)) C hP hS d_MM_escape_481
  replace h := o_ff c19 h
  by_cases c20 : q1 = (53:Int32)
  · replace h := o_tt c20 h
    refine lv_tableIn (off := 458) (tgt := 475) hx hb d_MM_escape_17 (by rw [c20]; decide) (by rw [c20]; decide) (by rw [c20]; rfl) (by decide) ?_
    refine lv_aload_n hx hb d_MM_escape_475 rfl (lv_at hl 1 rfl) ?_
    refine lv_iconst (v := (1:Int32)) hx hb d_MM_escape_476 (by decide) ?_
    refine o_put (v := .int (1:Int32)) (ty := .boolean) (w1 := (m_cw ad ca ky ty 48 Ni (NP_mk (NP_nodeKind Np) (NP_nodeA Np) (NP_nodeB Np) (NP_nodeC Np) (NP_nodeNext Np) (NP_low Np) (NP_high Np) (NP_setFrom Np) (NP_setTo Np) (NP_setNot Np) (NP_nodes Np) (NP_sets Np) (NP_ranges Np) ((NP_pat Np) + (1:Int32)) (NP_patEnd Np) (1:Int32)) No Nx Nf Na Nh Nq Nj M0 tc)) C in_MM t_MM t_MM_ok n_MM hP (hDD _ _ _ _ _ _ _ _ _ _ _ _) hS 0 mw_0 rfl 32 (by decide) k_8_22 rfl rfl (by decide +kernel) rfl rfl (Nat.le_of_ble_eq_true rfl) rfl d_MM_escape_477 (fun H locs hP hS => ?_)
    refine lv_iconst (v := (0:Int32)) hx hb d_MM_escape_480 (by decide) ?_
    cases h
    exact o_ri (v := (0:Int32)) C hP hS d_MM_escape_481
  replace h := o_ff c20 h
  by_cases c21 : q1 = (54:Int32)
  · replace h := o_tt c21 h
    refine lv_tableIn (off := 458) (tgt := 475) hx hb d_MM_escape_17 (by rw [c21]; decide) (by rw [c21]; decide) (by rw [c21]; rfl) (by decide) ?_
    refine lv_aload_n hx hb d_MM_escape_475 rfl (lv_at hl 1 rfl) ?_
    refine lv_iconst (v := (1:Int32)) hx hb d_MM_escape_476 (by decide) ?_
    refine o_put (v := .int (1:Int32)) (ty := .boolean) (w1 := (m_cw ad ca ky ty 48 Ni (NP_mk (NP_nodeKind Np) (NP_nodeA Np) (NP_nodeB Np) (NP_nodeC Np) (NP_nodeNext Np) (NP_low Np) (NP_high Np) (NP_setFrom Np) (NP_setTo Np) (NP_setNot Np) (NP_nodes Np) (NP_sets Np) (NP_ranges Np) ((NP_pat Np) + (1:Int32)) (NP_patEnd Np) (1:Int32)) No Nx Nf Na Nh Nq Nj M0 tc)) C in_MM t_MM t_MM_ok n_MM hP (hDD _ _ _ _ _ _ _ _ _ _ _ _) hS 0 mw_0 rfl 32 (by decide) k_8_22 rfl rfl (by decide +kernel) rfl rfl (Nat.le_of_ble_eq_true rfl) rfl d_MM_escape_477 (fun H locs hP hS => ?_)
    refine lv_iconst (v := (0:Int32)) hx hb d_MM_escape_480 (by decide) ?_
    cases h
    exact o_ri (v := (0:Int32)) C hP hS d_MM_escape_481
  replace h := o_ff c21 h
  by_cases c22 : q1 = (55:Int32)
  · replace h := o_tt c22 h
    refine lv_tableIn (off := 458) (tgt := 475) hx hb d_MM_escape_17 (by rw [c22]; decide) (by rw [c22]; decide) (by rw [c22]; rfl) (by decide) ?_
    refine lv_aload_n hx hb d_MM_escape_475 rfl (lv_at hl 1 rfl) ?_
    refine lv_iconst (v := (1:Int32)) hx hb d_MM_escape_476 (by decide) ?_
    refine o_put (v := .int (1:Int32)) (ty := .boolean) (w1 := (m_cw ad ca ky ty 48 Ni (NP_mk (NP_nodeKind Np) (NP_nodeA Np) (NP_nodeB Np) (NP_nodeC Np) (NP_nodeNext Np) (NP_low Np) (NP_high Np) (NP_setFrom Np) (NP_setTo Np) (NP_setNot Np) (NP_nodes Np) (NP_sets Np) (NP_ranges Np) ((NP_pat Np) + (1:Int32)) (NP_patEnd Np) (1:Int32)) No Nx Nf Na Nh Nq Nj M0 tc)) C in_MM t_MM t_MM_ok n_MM hP (hDD _ _ _ _ _ _ _ _ _ _ _ _) hS 0 mw_0 rfl 32 (by decide) k_8_22 rfl rfl (by decide +kernel) rfl rfl (Nat.le_of_ble_eq_true rfl) rfl d_MM_escape_477 (fun H locs hP hS => ?_)
    refine lv_iconst (v := (0:Int32)) hx hb d_MM_escape_480 (by decide) ?_
    cases h
    exact o_ri (v := (0:Int32)) C hP hS d_MM_escape_481
  replace h := o_ff c22 h
  by_cases c23 : q1 = (56:Int32)
  · replace h := o_tt c23 h
    refine lv_tableIn (off := 458) (tgt := 475) hx hb d_MM_escape_17 (by rw [c23]; decide) (by rw [c23]; decide) (by rw [c23]; rfl) (by decide) ?_
    refine lv_aload_n hx hb d_MM_escape_475 rfl (lv_at hl 1 rfl) ?_
    refine lv_iconst (v := (1:Int32)) hx hb d_MM_escape_476 (by decide) ?_
    refine o_put (v := .int (1:Int32)) (ty := .boolean) (w1 := (m_cw ad ca ky ty 48 Ni (NP_mk (NP_nodeKind Np) (NP_nodeA Np) (NP_nodeB Np) (NP_nodeC Np) (NP_nodeNext Np) (NP_low Np) (NP_high Np) (NP_setFrom Np) (NP_setTo Np) (NP_setNot Np) (NP_nodes Np) (NP_sets Np) (NP_ranges Np) ((NP_pat Np) + (1:Int32)) (NP_patEnd Np) (1:Int32)) No Nx Nf Na Nh Nq Nj M0 tc)) C in_MM t_MM t_MM_ok n_MM hP (hDD _ _ _ _ _ _ _ _ _ _ _ _) hS 0 mw_0 rfl 32 (by decide) k_8_22 rfl rfl (by decide +kernel) rfl rfl (Nat.le_of_ble_eq_true rfl) rfl d_MM_escape_477 (fun H locs hP hS => ?_)
    refine lv_iconst (v := (0:Int32)) hx hb d_MM_escape_480 (by decide) ?_
    cases h
    exact o_ri (v := (0:Int32)) C hP hS d_MM_escape_481
  replace h := o_ff c23 h
  by_cases c24 : q1 = (57:Int32)
  · replace h := o_tt c24 h
    refine lv_tableIn (off := 458) (tgt := 475) hx hb d_MM_escape_17 (by rw [c24]; decide) (by rw [c24]; decide) (by rw [c24]; rfl) (by decide) ?_
    refine lv_aload_n hx hb d_MM_escape_475 rfl (lv_at hl 1 rfl) ?_
    refine lv_iconst (v := (1:Int32)) hx hb d_MM_escape_476 (by decide) ?_
    refine o_put (v := .int (1:Int32)) (ty := .boolean) (w1 := (m_cw ad ca ky ty 48 Ni (NP_mk (NP_nodeKind Np) (NP_nodeA Np) (NP_nodeB Np) (NP_nodeC Np) (NP_nodeNext Np) (NP_low Np) (NP_high Np) (NP_setFrom Np) (NP_setTo Np) (NP_setNot Np) (NP_nodes Np) (NP_sets Np) (NP_ranges Np) ((NP_pat Np) + (1:Int32)) (NP_patEnd Np) (1:Int32)) No Nx Nf Na Nh Nq Nj M0 tc)) C in_MM t_MM t_MM_ok n_MM hP (hDD _ _ _ _ _ _ _ _ _ _ _ _) hS 0 mw_0 rfl 32 (by decide) k_8_22 rfl rfl (by decide +kernel) rfl rfl (Nat.le_of_ble_eq_true rfl) rfl d_MM_escape_477 (fun H locs hP hS => ?_)
    refine lv_iconst (v := (0:Int32)) hx hb d_MM_escape_480 (by decide) ?_
    cases h
    exact o_ri (v := (0:Int32)) C hP hS d_MM_escape_481
  replace h := o_ff c24 h
  by_cases c25 : q1 = (58:Int32)
  · replace h := o_tt c25 h
    refine lv_tableIn (off := 458) (tgt := 475) hx hb d_MM_escape_17 (by rw [c25]; decide) (by rw [c25]; decide) (by rw [c25]; rfl) (by decide) ?_
    refine lv_aload_n hx hb d_MM_escape_475 rfl (lv_at hl 1 rfl) ?_
    refine lv_iconst (v := (1:Int32)) hx hb d_MM_escape_476 (by decide) ?_
    refine o_put (v := .int (1:Int32)) (ty := .boolean) (w1 := (m_cw ad ca ky ty 48 Ni (NP_mk (NP_nodeKind Np) (NP_nodeA Np) (NP_nodeB Np) (NP_nodeC Np) (NP_nodeNext Np) (NP_low Np) (NP_high Np) (NP_setFrom Np) (NP_setTo Np) (NP_setNot Np) (NP_nodes Np) (NP_sets Np) (NP_ranges Np) ((NP_pat Np) + (1:Int32)) (NP_patEnd Np) (1:Int32)) No Nx Nf Na Nh Nq Nj M0 tc)) C in_MM t_MM t_MM_ok n_MM hP (hDD _ _ _ _ _ _ _ _ _ _ _ _) hS 0 mw_0 rfl 32 (by decide) k_8_22 rfl rfl (by decide +kernel) rfl rfl (Nat.le_of_ble_eq_true rfl) rfl d_MM_escape_477 (fun H locs hP hS => ?_)
    refine lv_iconst (v := (0:Int32)) hx hb d_MM_escape_480 (by decide) ?_
    cases h
    exact o_ri (v := (0:Int32)) C hP hS d_MM_escape_481
  replace h := o_ff c25 h
  by_cases c26 : q1 = (59:Int32)
  · replace h := o_tt c26 h
    refine lv_tableIn (off := 458) (tgt := 475) hx hb d_MM_escape_17 (by rw [c26]; decide) (by rw [c26]; decide) (by rw [c26]; rfl) (by decide) ?_
    refine lv_aload_n hx hb d_MM_escape_475 rfl (lv_at hl 1 rfl) ?_
    refine lv_iconst (v := (1:Int32)) hx hb d_MM_escape_476 (by decide) ?_
    refine o_put (v := .int (1:Int32)) (ty := .boolean) (w1 := (m_cw ad ca ky ty 48 Ni (NP_mk (NP_nodeKind Np) (NP_nodeA Np) (NP_nodeB Np) (NP_nodeC Np) (NP_nodeNext Np) (NP_low Np) (NP_high Np) (NP_setFrom Np) (NP_setTo Np) (NP_setNot Np) (NP_nodes Np) (NP_sets Np) (NP_ranges Np) ((NP_pat Np) + (1:Int32)) (NP_patEnd Np) (1:Int32)) No Nx Nf Na Nh Nq Nj M0 tc)) C in_MM t_MM t_MM_ok n_MM hP (hDD _ _ _ _ _ _ _ _ _ _ _ _) hS 0 mw_0 rfl 32 (by decide) k_8_22 rfl rfl (by decide +kernel) rfl rfl (Nat.le_of_ble_eq_true rfl) rfl d_MM_escape_477 (fun H locs hP hS => ?_)
    refine lv_iconst (v := (0:Int32)) hx hb d_MM_escape_480 (by decide) ?_
    cases h
    exact o_ri (v := (0:Int32)) C hP hS d_MM_escape_481
  replace h := o_ff c26 h
  by_cases c27 : q1 = (60:Int32)
  · replace h := o_tt c27 h
    refine lv_tableIn (off := 458) (tgt := 475) hx hb d_MM_escape_17 (by rw [c27]; decide) (by rw [c27]; decide) (by rw [c27]; rfl) (by decide) ?_
    refine lv_aload_n hx hb d_MM_escape_475 rfl (lv_at hl 1 rfl) ?_
    refine lv_iconst (v := (1:Int32)) hx hb d_MM_escape_476 (by decide) ?_
    refine o_put (v := .int (1:Int32)) (ty := .boolean) (w1 := (m_cw ad ca ky ty 48 Ni (NP_mk (NP_nodeKind Np) (NP_nodeA Np) (NP_nodeB Np) (NP_nodeC Np) (NP_nodeNext Np) (NP_low Np) (NP_high Np) (NP_setFrom Np) (NP_setTo Np) (NP_setNot Np) (NP_nodes Np) (NP_sets Np) (NP_ranges Np) ((NP_pat Np) + (1:Int32)) (NP_patEnd Np) (1:Int32)) No Nx Nf Na Nh Nq Nj M0 tc)) C in_MM t_MM t_MM_ok n_MM hP (hDD _ _ _ _ _ _ _ _ _ _ _ _) hS 0 mw_0 rfl 32 (by decide) k_8_22 rfl rfl (by decide +kernel) rfl rfl (Nat.le_of_ble_eq_true rfl) rfl d_MM_escape_477 (fun H locs hP hS => ?_)
    refine lv_iconst (v := (0:Int32)) hx hb d_MM_escape_480 (by decide) ?_
    cases h
    exact o_ri (v := (0:Int32)) C hP hS d_MM_escape_481
  replace h := o_ff c27 h
  by_cases c28 : q1 = (61:Int32)
  · replace h := o_tt c28 h
    refine lv_tableIn (off := 458) (tgt := 475) hx hb d_MM_escape_17 (by rw [c28]; decide) (by rw [c28]; decide) (by rw [c28]; rfl) (by decide) ?_
    refine lv_aload_n hx hb d_MM_escape_475 rfl (lv_at hl 1 rfl) ?_
    refine lv_iconst (v := (1:Int32)) hx hb d_MM_escape_476 (by decide) ?_
    refine o_put (v := .int (1:Int32)) (ty := .boolean) (w1 := (m_cw ad ca ky ty 48 Ni (NP_mk (NP_nodeKind Np) (NP_nodeA Np) (NP_nodeB Np) (NP_nodeC Np) (NP_nodeNext Np) (NP_low Np) (NP_high Np) (NP_setFrom Np) (NP_setTo Np) (NP_setNot Np) (NP_nodes Np) (NP_sets Np) (NP_ranges Np) ((NP_pat Np) + (1:Int32)) (NP_patEnd Np) (1:Int32)) No Nx Nf Na Nh Nq Nj M0 tc)) C in_MM t_MM t_MM_ok n_MM hP (hDD _ _ _ _ _ _ _ _ _ _ _ _) hS 0 mw_0 rfl 32 (by decide) k_8_22 rfl rfl (by decide +kernel) rfl rfl (Nat.le_of_ble_eq_true rfl) rfl d_MM_escape_477 (fun H locs hP hS => ?_)
    refine lv_iconst (v := (0:Int32)) hx hb d_MM_escape_480 (by decide) ?_
    cases h
    exact o_ri (v := (0:Int32)) C hP hS d_MM_escape_481
  replace h := o_ff c28 h
  by_cases c29 : q1 = (62:Int32)
  · replace h := o_tt c29 h
    refine lv_tableIn (off := 458) (tgt := 475) hx hb d_MM_escape_17 (by rw [c29]; decide) (by rw [c29]; decide) (by rw [c29]; rfl) (by decide) ?_
    refine lv_aload_n hx hb d_MM_escape_475 rfl (lv_at hl 1 rfl) ?_
    refine lv_iconst (v := (1:Int32)) hx hb d_MM_escape_476 (by decide) ?_
    refine o_put (v := .int (1:Int32)) (ty := .boolean) (w1 := (m_cw ad ca ky ty 48 Ni (NP_mk (NP_nodeKind Np) (NP_nodeA Np) (NP_nodeB Np) (NP_nodeC Np) (NP_nodeNext Np) (NP_low Np) (NP_high Np) (NP_setFrom Np) (NP_setTo Np) (NP_setNot Np) (NP_nodes Np) (NP_sets Np) (NP_ranges Np) ((NP_pat Np) + (1:Int32)) (NP_patEnd Np) (1:Int32)) No Nx Nf Na Nh Nq Nj M0 tc)) C in_MM t_MM t_MM_ok n_MM hP (hDD _ _ _ _ _ _ _ _ _ _ _ _) hS 0 mw_0 rfl 32 (by decide) k_8_22 rfl rfl (by decide +kernel) rfl rfl (Nat.le_of_ble_eq_true rfl) rfl d_MM_escape_477 (fun H locs hP hS => ?_)
    refine lv_iconst (v := (0:Int32)) hx hb d_MM_escape_480 (by decide) ?_
    cases h
    exact o_ri (v := (0:Int32)) C hP hS d_MM_escape_481
  replace h := o_ff c29 h
  by_cases c30 : q1 = (63:Int32)
  · replace h := o_tt c30 h
    refine lv_tableIn (off := 456) (tgt := 473) hx hb d_MM_escape_17 (by rw [c30]; decide) (by rw [c30]; decide) (by rw [c30]; rfl) (by decide) ?_
    refine lv_iload_n hx hb d_MM_escape_473 rfl (lv_at hl 0 rfl) ?_
    cases h
    exact o_ri C hP hS d_MM_escape_474
  replace h := o_ff c30 h
  by_cases c31 : q1 = (64:Int32)
  · replace h := o_tt c31 h
    refine lv_tableIn (off := 458) (tgt := 475) hx hb d_MM_escape_17 (by rw [c31]; decide) (by rw [c31]; decide) (by rw [c31]; rfl) (by decide) ?_
    refine lv_aload_n hx hb d_MM_escape_475 rfl (lv_at hl 1 rfl) ?_
    refine lv_iconst (v := (1:Int32)) hx hb d_MM_escape_476 (by decide) ?_
    refine o_put (v := .int (1:Int32)) (ty := .boolean) (w1 := (m_cw ad ca ky ty 48 Ni (NP_mk (NP_nodeKind Np) (NP_nodeA Np) (NP_nodeB Np) (NP_nodeC Np) (NP_nodeNext Np) (NP_low Np) (NP_high Np) (NP_setFrom Np) (NP_setTo Np) (NP_setNot Np) (NP_nodes Np) (NP_sets Np) (NP_ranges Np) ((NP_pat Np) + (1:Int32)) (NP_patEnd Np) (1:Int32)) No Nx Nf Na Nh Nq Nj M0 tc)) C in_MM t_MM t_MM_ok n_MM hP (hDD _ _ _ _ _ _ _ _ _ _ _ _) hS 0 mw_0 rfl 32 (by decide) k_8_22 rfl rfl (by decide +kernel) rfl rfl (Nat.le_of_ble_eq_true rfl) rfl d_MM_escape_477 (fun H locs hP hS => ?_)
    refine lv_iconst (v := (0:Int32)) hx hb d_MM_escape_480 (by decide) ?_
    cases h
    exact o_ri (v := (0:Int32)) C hP hS d_MM_escape_481
  replace h := o_ff c31 h
  by_cases c32 : q1 = (65:Int32)
  · replace h := o_tt c32 h
    refine lv_tableIn (off := 458) (tgt := 475) hx hb d_MM_escape_17 (by rw [c32]; decide) (by rw [c32]; decide) (by rw [c32]; rfl) (by decide) ?_
    refine lv_aload_n hx hb d_MM_escape_475 rfl (lv_at hl 1 rfl) ?_
    refine lv_iconst (v := (1:Int32)) hx hb d_MM_escape_476 (by decide) ?_
    refine o_put (v := .int (1:Int32)) (ty := .boolean) (w1 := (m_cw ad ca ky ty 48 Ni (NP_mk (NP_nodeKind Np) (NP_nodeA Np) (NP_nodeB Np) (NP_nodeC Np) (NP_nodeNext Np) (NP_low Np) (NP_high Np) (NP_setFrom Np) (NP_setTo Np) (NP_setNot Np) (NP_nodes Np) (NP_sets Np) (NP_ranges Np) ((NP_pat Np) + (1:Int32)) (NP_patEnd Np) (1:Int32)) No Nx Nf Na Nh Nq Nj M0 tc)) C in_MM t_MM t_MM_ok n_MM hP (hDD _ _ _ _ _ _ _ _ _ _ _ _) hS 0 mw_0 rfl 32 (by decide) k_8_22 rfl rfl (by decide +kernel) rfl rfl (Nat.le_of_ble_eq_true rfl) rfl d_MM_escape_477 (fun H locs hP hS => ?_)
    refine lv_iconst (v := (0:Int32)) hx hb d_MM_escape_480 (by decide) ?_
    cases h
    exact o_ri (v := (0:Int32)) C hP hS d_MM_escape_481
  replace h := o_ff c32 h
  by_cases c33 : q1 = (66:Int32)
  · replace h := o_tt c33 h
    refine lv_tableIn (off := 458) (tgt := 475) hx hb d_MM_escape_17 (by rw [c33]; decide) (by rw [c33]; decide) (by rw [c33]; rfl) (by decide) ?_
    refine lv_aload_n hx hb d_MM_escape_475 rfl (lv_at hl 1 rfl) ?_
    refine lv_iconst (v := (1:Int32)) hx hb d_MM_escape_476 (by decide) ?_
    refine o_put (v := .int (1:Int32)) (ty := .boolean) (w1 := (m_cw ad ca ky ty 48 Ni (NP_mk (NP_nodeKind Np) (NP_nodeA Np) (NP_nodeB Np) (NP_nodeC Np) (NP_nodeNext Np) (NP_low Np) (NP_high Np) (NP_setFrom Np) (NP_setTo Np) (NP_setNot Np) (NP_nodes Np) (NP_sets Np) (NP_ranges Np) ((NP_pat Np) + (1:Int32)) (NP_patEnd Np) (1:Int32)) No Nx Nf Na Nh Nq Nj M0 tc)) C in_MM t_MM t_MM_ok n_MM hP (hDD _ _ _ _ _ _ _ _ _ _ _ _) hS 0 mw_0 rfl 32 (by decide) k_8_22 rfl rfl (by decide +kernel) rfl rfl (Nat.le_of_ble_eq_true rfl) rfl d_MM_escape_477 (fun H locs hP hS => ?_)
    refine lv_iconst (v := (0:Int32)) hx hb d_MM_escape_480 (by decide) ?_
    cases h
    exact o_ri (v := (0:Int32)) C hP hS d_MM_escape_481
  replace h := o_ff c33 h
  by_cases c34 : q1 = (67:Int32)
  · replace h := o_tt c34 h
    refine lv_tableIn (off := 458) (tgt := 475) hx hb d_MM_escape_17 (by rw [c34]; decide) (by rw [c34]; decide) (by rw [c34]; rfl) (by decide) ?_
    refine lv_aload_n hx hb d_MM_escape_475 rfl (lv_at hl 1 rfl) ?_
    refine lv_iconst (v := (1:Int32)) hx hb d_MM_escape_476 (by decide) ?_
    refine o_put (v := .int (1:Int32)) (ty := .boolean) (w1 := (m_cw ad ca ky ty 48 Ni (NP_mk (NP_nodeKind Np) (NP_nodeA Np) (NP_nodeB Np) (NP_nodeC Np) (NP_nodeNext Np) (NP_low Np) (NP_high Np) (NP_setFrom Np) (NP_setTo Np) (NP_setNot Np) (NP_nodes Np) (NP_sets Np) (NP_ranges Np) ((NP_pat Np) + (1:Int32)) (NP_patEnd Np) (1:Int32)) No Nx Nf Na Nh Nq Nj M0 tc)) C in_MM t_MM t_MM_ok n_MM hP (hDD _ _ _ _ _ _ _ _ _ _ _ _) hS 0 mw_0 rfl 32 (by decide) k_8_22 rfl rfl (by decide +kernel) rfl rfl (Nat.le_of_ble_eq_true rfl) rfl d_MM_escape_477 (fun H locs hP hS => ?_)
    refine lv_iconst (v := (0:Int32)) hx hb d_MM_escape_480 (by decide) ?_
    cases h
    exact o_ri (v := (0:Int32)) C hP hS d_MM_escape_481
  replace h := o_ff c34 h
  by_cases c35 : q1 = (68:Int32)
  · replace h := o_tt c35 h
    refine lv_tableIn (off := 375) (tgt := 392) hx hb d_MM_escape_17 (by rw [c35]; decide) (by rw [c35]; decide) (by rw [c35]; rfl) (by decide) ?_
    refine lv_aload_n hx hb d_MM_escape_392 rfl (lv_at hl 1 rfl) ?_
    refine lv_iload_n hx hb d_MM_escape_393 rfl (lv_at hl 0 rfl) ?_
    obtain ⟨q4, hq4, h⟩ := o_bd_some h
    refine o_V (st1 := []) (w1 := (m_cw ad ca ky ty 48 Ni q4 No Nx Nf Na Nh Nq Nj M0 tc)) hE.1 C (e_MM_set hE hKy l n q1 (NP_mk (NP_nodeKind Np) (NP_nodeA Np) (NP_nodeB Np) (NP_nodeC Np) (NP_nodeNext Np) (NP_low Np) (NP_high Np) (NP_setFrom Np) (NP_setTo Np) (NP_setNot Np) (NP_nodes Np) (NP_sets Np) (NP_ranges Np) ((NP_pat Np) + (1:Int32)) (NP_patEnd Np) (NP_broken Np)) Ni No Nx Nf Na Nh Nq Nj M0 tc 48 hq4) hP (hDD _ _ _ _ _ _ _ _ _ _ _ _) hS hl.1 rfl mw_0 k_9_98 k_9_100 k_s_96 k_1_12 k_9_101 hv_MM_set rfl rfl ⟨(Nat.le_of_ble_eq_true rfl), (Nat.le_of_ble_eq_true rfl)⟩ rfl (Nat.le_of_ble_eq_true rfl) ⟨Nat.zero_le _, Nat.zero_le _⟩ rfl d_MM_escape_394 (fun H locs hP hS => ?_)
    refine lv_iconst (v := (-1:Int32)) hx hb d_MM_escape_397 (by decide) ?_
    cases h
    exact o_ri (v := (-1:Int32)) C hP hS d_MM_escape_398
  replace h := o_ff c35 h
  by_cases c36 : q1 = (69:Int32)
  · replace h := o_tt c36 h
    refine lv_tableIn (off := 458) (tgt := 475) hx hb d_MM_escape_17 (by rw [c36]; decide) (by rw [c36]; decide) (by rw [c36]; rfl) (by decide) ?_
    refine lv_aload_n hx hb d_MM_escape_475 rfl (lv_at hl 1 rfl) ?_
    refine lv_iconst (v := (1:Int32)) hx hb d_MM_escape_476 (by decide) ?_
    refine o_put (v := .int (1:Int32)) (ty := .boolean) (w1 := (m_cw ad ca ky ty 48 Ni (NP_mk (NP_nodeKind Np) (NP_nodeA Np) (NP_nodeB Np) (NP_nodeC Np) (NP_nodeNext Np) (NP_low Np) (NP_high Np) (NP_setFrom Np) (NP_setTo Np) (NP_setNot Np) (NP_nodes Np) (NP_sets Np) (NP_ranges Np) ((NP_pat Np) + (1:Int32)) (NP_patEnd Np) (1:Int32)) No Nx Nf Na Nh Nq Nj M0 tc)) C in_MM t_MM t_MM_ok n_MM hP (hDD _ _ _ _ _ _ _ _ _ _ _ _) hS 0 mw_0 rfl 32 (by decide) k_8_22 rfl rfl (by decide +kernel) rfl rfl (Nat.le_of_ble_eq_true rfl) rfl d_MM_escape_477 (fun H locs hP hS => ?_)
    refine lv_iconst (v := (0:Int32)) hx hb d_MM_escape_480 (by decide) ?_
    cases h
    exact o_ri (v := (0:Int32)) C hP hS d_MM_escape_481
  replace h := o_ff c36 h
  by_cases c37 : q1 = (70:Int32)
  · replace h := o_tt c37 h
    refine lv_tableIn (off := 458) (tgt := 475) hx hb d_MM_escape_17 (by rw [c37]; decide) (by rw [c37]; decide) (by rw [c37]; rfl) (by decide) ?_
    refine lv_aload_n hx hb d_MM_escape_475 rfl (lv_at hl 1 rfl) ?_
    refine lv_iconst (v := (1:Int32)) hx hb d_MM_escape_476 (by decide) ?_
    refine o_put (v := .int (1:Int32)) (ty := .boolean) (w1 := (m_cw ad ca ky ty 48 Ni (NP_mk (NP_nodeKind Np) (NP_nodeA Np) (NP_nodeB Np) (NP_nodeC Np) (NP_nodeNext Np) (NP_low Np) (NP_high Np) (NP_setFrom Np) (NP_setTo Np) (NP_setNot Np) (NP_nodes Np) (NP_sets Np) (NP_ranges Np) ((NP_pat Np) + (1:Int32)) (NP_patEnd Np) (1:Int32)) No Nx Nf Na Nh Nq Nj M0 tc)) C in_MM t_MM t_MM_ok n_MM hP (hDD _ _ _ _ _ _ _ _ _ _ _ _) hS 0 mw_0 rfl 32 (by decide) k_8_22 rfl rfl (by decide +kernel) rfl rfl (Nat.le_of_ble_eq_true rfl) rfl d_MM_escape_477 (fun H locs hP hS => ?_)
    refine lv_iconst (v := (0:Int32)) hx hb d_MM_escape_480 (by decide) ?_
    cases h
    exact o_ri (v := (0:Int32)) C hP hS d_MM_escape_481
  replace h := o_ff c37 h
  by_cases c38 : q1 = (71:Int32)
  · replace h := o_tt c38 h
    refine lv_tableIn (off := 458) (tgt := 475) hx hb d_MM_escape_17 (by rw [c38]; decide) (by rw [c38]; decide) (by rw [c38]; rfl) (by decide) ?_
    refine lv_aload_n hx hb d_MM_escape_475 rfl (lv_at hl 1 rfl) ?_
    refine lv_iconst (v := (1:Int32)) hx hb d_MM_escape_476 (by decide) ?_
    refine o_put (v := .int (1:Int32)) (ty := .boolean) (w1 := (m_cw ad ca ky ty 48 Ni (NP_mk (NP_nodeKind Np) (NP_nodeA Np) (NP_nodeB Np) (NP_nodeC Np) (NP_nodeNext Np) (NP_low Np) (NP_high Np) (NP_setFrom Np) (NP_setTo Np) (NP_setNot Np) (NP_nodes Np) (NP_sets Np) (NP_ranges Np) ((NP_pat Np) + (1:Int32)) (NP_patEnd Np) (1:Int32)) No Nx Nf Na Nh Nq Nj M0 tc)) C in_MM t_MM t_MM_ok n_MM hP (hDD _ _ _ _ _ _ _ _ _ _ _ _) hS 0 mw_0 rfl 32 (by decide) k_8_22 rfl rfl (by decide +kernel) rfl rfl (Nat.le_of_ble_eq_true rfl) rfl d_MM_escape_477 (fun H locs hP hS => ?_)
    refine lv_iconst (v := (0:Int32)) hx hb d_MM_escape_480 (by decide) ?_
    cases h
    exact o_ri (v := (0:Int32)) C hP hS d_MM_escape_481
  replace h := o_ff c38 h
  by_cases c39 : q1 = (72:Int32)
  · replace h := o_tt c39 h
    refine lv_tableIn (off := 458) (tgt := 475) hx hb d_MM_escape_17 (by rw [c39]; decide) (by rw [c39]; decide) (by rw [c39]; rfl) (by decide) ?_
    refine lv_aload_n hx hb d_MM_escape_475 rfl (lv_at hl 1 rfl) ?_
    refine lv_iconst (v := (1:Int32)) hx hb d_MM_escape_476 (by decide) ?_
    refine o_put (v := .int (1:Int32)) (ty := .boolean) (w1 := (m_cw ad ca ky ty 48 Ni (NP_mk (NP_nodeKind Np) (NP_nodeA Np) (NP_nodeB Np) (NP_nodeC Np) (NP_nodeNext Np) (NP_low Np) (NP_high Np) (NP_setFrom Np) (NP_setTo Np) (NP_setNot Np) (NP_nodes Np) (NP_sets Np) (NP_ranges Np) ((NP_pat Np) + (1:Int32)) (NP_patEnd Np) (1:Int32)) No Nx Nf Na Nh Nq Nj M0 tc)) C in_MM t_MM t_MM_ok n_MM hP (hDD _ _ _ _ _ _ _ _ _ _ _ _) hS 0 mw_0 rfl 32 (by decide) k_8_22 rfl rfl (by decide +kernel) rfl rfl (Nat.le_of_ble_eq_true rfl) rfl d_MM_escape_477 (fun H locs hP hS => ?_)
    refine lv_iconst (v := (0:Int32)) hx hb d_MM_escape_480 (by decide) ?_
    cases h
    exact o_ri (v := (0:Int32)) C hP hS d_MM_escape_481
  replace h := o_ff c39 h
  by_cases c40 : q1 = (73:Int32)
  · replace h := o_tt c40 h
    refine lv_tableIn (off := 458) (tgt := 475) hx hb d_MM_escape_17 (by rw [c40]; decide) (by rw [c40]; decide) (by rw [c40]; rfl) (by decide) ?_
    refine lv_aload_n hx hb d_MM_escape_475 rfl (lv_at hl 1 rfl) ?_
    refine lv_iconst (v := (1:Int32)) hx hb d_MM_escape_476 (by decide) ?_
    refine o_put (v := .int (1:Int32)) (ty := .boolean) (w1 := (m_cw ad ca ky ty 48 Ni (NP_mk (NP_nodeKind Np) (NP_nodeA Np) (NP_nodeB Np) (NP_nodeC Np) (NP_nodeNext Np) (NP_low Np) (NP_high Np) (NP_setFrom Np) (NP_setTo Np) (NP_setNot Np) (NP_nodes Np) (NP_sets Np) (NP_ranges Np) ((NP_pat Np) + (1:Int32)) (NP_patEnd Np) (1:Int32)) No Nx Nf Na Nh Nq Nj M0 tc)) C in_MM t_MM t_MM_ok n_MM hP (hDD _ _ _ _ _ _ _ _ _ _ _ _) hS 0 mw_0 rfl 32 (by decide) k_8_22 rfl rfl (by decide +kernel) rfl rfl (Nat.le_of_ble_eq_true rfl) rfl d_MM_escape_477 (fun H locs hP hS => ?_)
    refine lv_iconst (v := (0:Int32)) hx hb d_MM_escape_480 (by decide) ?_
    cases h
    exact o_ri (v := (0:Int32)) C hP hS d_MM_escape_481
  replace h := o_ff c40 h
  by_cases c41 : q1 = (74:Int32)
  · replace h := o_tt c41 h
    refine lv_tableIn (off := 458) (tgt := 475) hx hb d_MM_escape_17 (by rw [c41]; decide) (by rw [c41]; decide) (by rw [c41]; rfl) (by decide) ?_
    refine lv_aload_n hx hb d_MM_escape_475 rfl (lv_at hl 1 rfl) ?_
    refine lv_iconst (v := (1:Int32)) hx hb d_MM_escape_476 (by decide) ?_
    refine o_put (v := .int (1:Int32)) (ty := .boolean) (w1 := (m_cw ad ca ky ty 48 Ni (NP_mk (NP_nodeKind Np) (NP_nodeA Np) (NP_nodeB Np) (NP_nodeC Np) (NP_nodeNext Np) (NP_low Np) (NP_high Np) (NP_setFrom Np) (NP_setTo Np) (NP_setNot Np) (NP_nodes Np) (NP_sets Np) (NP_ranges Np) ((NP_pat Np) + (1:Int32)) (NP_patEnd Np) (1:Int32)) No Nx Nf Na Nh Nq Nj M0 tc)) C in_MM t_MM t_MM_ok n_MM hP (hDD _ _ _ _ _ _ _ _ _ _ _ _) hS 0 mw_0 rfl 32 (by decide) k_8_22 rfl rfl (by decide +kernel) rfl rfl (Nat.le_of_ble_eq_true rfl) rfl d_MM_escape_477 (fun H locs hP hS => ?_)
    refine lv_iconst (v := (0:Int32)) hx hb d_MM_escape_480 (by decide) ?_
    cases h
    exact o_ri (v := (0:Int32)) C hP hS d_MM_escape_481
  replace h := o_ff c41 h
  by_cases c42 : q1 = (75:Int32)
  · replace h := o_tt c42 h
    refine lv_tableIn (off := 458) (tgt := 475) hx hb d_MM_escape_17 (by rw [c42]; decide) (by rw [c42]; decide) (by rw [c42]; rfl) (by decide) ?_
    refine lv_aload_n hx hb d_MM_escape_475 rfl (lv_at hl 1 rfl) ?_
    refine lv_iconst (v := (1:Int32)) hx hb d_MM_escape_476 (by decide) ?_
    refine o_put (v := .int (1:Int32)) (ty := .boolean) (w1 := (m_cw ad ca ky ty 48 Ni (NP_mk (NP_nodeKind Np) (NP_nodeA Np) (NP_nodeB Np) (NP_nodeC Np) (NP_nodeNext Np) (NP_low Np) (NP_high Np) (NP_setFrom Np) (NP_setTo Np) (NP_setNot Np) (NP_nodes Np) (NP_sets Np) (NP_ranges Np) ((NP_pat Np) + (1:Int32)) (NP_patEnd Np) (1:Int32)) No Nx Nf Na Nh Nq Nj M0 tc)) C in_MM t_MM t_MM_ok n_MM hP (hDD _ _ _ _ _ _ _ _ _ _ _ _) hS 0 mw_0 rfl 32 (by decide) k_8_22 rfl rfl (by decide +kernel) rfl rfl (Nat.le_of_ble_eq_true rfl) rfl d_MM_escape_477 (fun H locs hP hS => ?_)
    refine lv_iconst (v := (0:Int32)) hx hb d_MM_escape_480 (by decide) ?_
    cases h
    exact o_ri (v := (0:Int32)) C hP hS d_MM_escape_481
  replace h := o_ff c42 h
  by_cases c43 : q1 = (76:Int32)
  · replace h := o_tt c43 h
    refine lv_tableIn (off := 458) (tgt := 475) hx hb d_MM_escape_17 (by rw [c43]; decide) (by rw [c43]; decide) (by rw [c43]; rfl) (by decide) ?_
    refine lv_aload_n hx hb d_MM_escape_475 rfl (lv_at hl 1 rfl) ?_
    refine lv_iconst (v := (1:Int32)) hx hb d_MM_escape_476 (by decide) ?_
    refine o_put (v := .int (1:Int32)) (ty := .boolean) (w1 := (m_cw ad ca ky ty 48 Ni (NP_mk (NP_nodeKind Np) (NP_nodeA Np) (NP_nodeB Np) (NP_nodeC Np) (NP_nodeNext Np) (NP_low Np) (NP_high Np) (NP_setFrom Np) (NP_setTo Np) (NP_setNot Np) (NP_nodes Np) (NP_sets Np) (NP_ranges Np) ((NP_pat Np) + (1:Int32)) (NP_patEnd Np) (1:Int32)) No Nx Nf Na Nh Nq Nj M0 tc)) C in_MM t_MM t_MM_ok n_MM hP (hDD _ _ _ _ _ _ _ _ _ _ _ _) hS 0 mw_0 rfl 32 (by decide) k_8_22 rfl rfl (by decide +kernel) rfl rfl (Nat.le_of_ble_eq_true rfl) rfl d_MM_escape_477 (fun H locs hP hS => ?_)
    refine lv_iconst (v := (0:Int32)) hx hb d_MM_escape_480 (by decide) ?_
    cases h
    exact o_ri (v := (0:Int32)) C hP hS d_MM_escape_481
  replace h := o_ff c43 h
  by_cases c44 : q1 = (77:Int32)
  · replace h := o_tt c44 h
    refine lv_tableIn (off := 458) (tgt := 475) hx hb d_MM_escape_17 (by rw [c44]; decide) (by rw [c44]; decide) (by rw [c44]; rfl) (by decide) ?_
    refine lv_aload_n hx hb d_MM_escape_475 rfl (lv_at hl 1 rfl) ?_
    refine lv_iconst (v := (1:Int32)) hx hb d_MM_escape_476 (by decide) ?_
    refine o_put (v := .int (1:Int32)) (ty := .boolean) (w1 := (m_cw ad ca ky ty 48 Ni (NP_mk (NP_nodeKind Np) (NP_nodeA Np) (NP_nodeB Np) (NP_nodeC Np) (NP_nodeNext Np) (NP_low Np) (NP_high Np) (NP_setFrom Np) (NP_setTo Np) (NP_setNot Np) (NP_nodes Np) (NP_sets Np) (NP_ranges Np) ((NP_pat Np) + (1:Int32)) (NP_patEnd Np) (1:Int32)) No Nx Nf Na Nh Nq Nj M0 tc)) C in_MM t_MM t_MM_ok n_MM hP (hDD _ _ _ _ _ _ _ _ _ _ _ _) hS 0 mw_0 rfl 32 (by decide) k_8_22 rfl rfl (by decide +kernel) rfl rfl (Nat.le_of_ble_eq_true rfl) rfl d_MM_escape_477 (fun H locs hP hS => ?_)
    refine lv_iconst (v := (0:Int32)) hx hb d_MM_escape_480 (by decide) ?_
    cases h
    exact o_ri (v := (0:Int32)) C hP hS d_MM_escape_481
  replace h := o_ff c44 h
  by_cases c45 : q1 = (78:Int32)
  · replace h := o_tt c45 h
    refine lv_tableIn (off := 458) (tgt := 475) hx hb d_MM_escape_17 (by rw [c45]; decide) (by rw [c45]; decide) (by rw [c45]; rfl) (by decide) ?_
    refine lv_aload_n hx hb d_MM_escape_475 rfl (lv_at hl 1 rfl) ?_
    refine lv_iconst (v := (1:Int32)) hx hb d_MM_escape_476 (by decide) ?_
    refine o_put (v := .int (1:Int32)) (ty := .boolean) (w1 := (m_cw ad ca ky ty 48 Ni (NP_mk (NP_nodeKind Np) (NP_nodeA Np) (NP_nodeB Np) (NP_nodeC Np) (NP_nodeNext Np) (NP_low Np) (NP_high Np) (NP_setFrom Np) (NP_setTo Np) (NP_setNot Np) (NP_nodes Np) (NP_sets Np) (NP_ranges Np) ((NP_pat Np) + (1:Int32)) (NP_patEnd Np) (1:Int32)) No Nx Nf Na Nh Nq Nj M0 tc)) C in_MM t_MM t_MM_ok n_MM hP (hDD _ _ _ _ _ _ _ _ _ _ _ _) hS 0 mw_0 rfl 32 (by decide) k_8_22 rfl rfl (by decide +kernel) rfl rfl (Nat.le_of_ble_eq_true rfl) rfl d_MM_escape_477 (fun H locs hP hS => ?_)
    refine lv_iconst (v := (0:Int32)) hx hb d_MM_escape_480 (by decide) ?_
    cases h
    exact o_ri (v := (0:Int32)) C hP hS d_MM_escape_481
  replace h := o_ff c45 h
  by_cases c46 : q1 = (79:Int32)
  · replace h := o_tt c46 h
    refine lv_tableIn (off := 458) (tgt := 475) hx hb d_MM_escape_17 (by rw [c46]; decide) (by rw [c46]; decide) (by rw [c46]; rfl) (by decide) ?_
    refine lv_aload_n hx hb d_MM_escape_475 rfl (lv_at hl 1 rfl) ?_
    refine lv_iconst (v := (1:Int32)) hx hb d_MM_escape_476 (by decide) ?_
    refine o_put (v := .int (1:Int32)) (ty := .boolean) (w1 := (m_cw ad ca ky ty 48 Ni (NP_mk (NP_nodeKind Np) (NP_nodeA Np) (NP_nodeB Np) (NP_nodeC Np) (NP_nodeNext Np) (NP_low Np) (NP_high Np) (NP_setFrom Np) (NP_setTo Np) (NP_setNot Np) (NP_nodes Np) (NP_sets Np) (NP_ranges Np) ((NP_pat Np) + (1:Int32)) (NP_patEnd Np) (1:Int32)) No Nx Nf Na Nh Nq Nj M0 tc)) C in_MM t_MM t_MM_ok n_MM hP (hDD _ _ _ _ _ _ _ _ _ _ _ _) hS 0 mw_0 rfl 32 (by decide) k_8_22 rfl rfl (by decide +kernel) rfl rfl (Nat.le_of_ble_eq_true rfl) rfl d_MM_escape_477 (fun H locs hP hS => ?_)
    refine lv_iconst (v := (0:Int32)) hx hb d_MM_escape_480 (by decide) ?_
    cases h
    exact o_ri (v := (0:Int32)) C hP hS d_MM_escape_481
  replace h := o_ff c46 h
  by_cases c47 : q1 = (80:Int32)
  · replace h := o_tt c47 h
    refine lv_tableIn (off := 458) (tgt := 475) hx hb d_MM_escape_17 (by rw [c47]; decide) (by rw [c47]; decide) (by rw [c47]; rfl) (by decide) ?_
    refine lv_aload_n hx hb d_MM_escape_475 rfl (lv_at hl 1 rfl) ?_
    refine lv_iconst (v := (1:Int32)) hx hb d_MM_escape_476 (by decide) ?_
    refine o_put (v := .int (1:Int32)) (ty := .boolean) (w1 := (m_cw ad ca ky ty 48 Ni (NP_mk (NP_nodeKind Np) (NP_nodeA Np) (NP_nodeB Np) (NP_nodeC Np) (NP_nodeNext Np) (NP_low Np) (NP_high Np) (NP_setFrom Np) (NP_setTo Np) (NP_setNot Np) (NP_nodes Np) (NP_sets Np) (NP_ranges Np) ((NP_pat Np) + (1:Int32)) (NP_patEnd Np) (1:Int32)) No Nx Nf Na Nh Nq Nj M0 tc)) C in_MM t_MM t_MM_ok n_MM hP (hDD _ _ _ _ _ _ _ _ _ _ _ _) hS 0 mw_0 rfl 32 (by decide) k_8_22 rfl rfl (by decide +kernel) rfl rfl (Nat.le_of_ble_eq_true rfl) rfl d_MM_escape_477 (fun H locs hP hS => ?_)
    refine lv_iconst (v := (0:Int32)) hx hb d_MM_escape_480 (by decide) ?_
    cases h
    exact o_ri (v := (0:Int32)) C hP hS d_MM_escape_481
  replace h := o_ff c47 h
  by_cases c48 : q1 = (81:Int32)
  · replace h := o_tt c48 h
    refine lv_tableIn (off := 458) (tgt := 475) hx hb d_MM_escape_17 (by rw [c48]; decide) (by rw [c48]; decide) (by rw [c48]; rfl) (by decide) ?_
    refine lv_aload_n hx hb d_MM_escape_475 rfl (lv_at hl 1 rfl) ?_
    refine lv_iconst (v := (1:Int32)) hx hb d_MM_escape_476 (by decide) ?_
    refine o_put (v := .int (1:Int32)) (ty := .boolean) (w1 := (m_cw ad ca ky ty 48 Ni (NP_mk (NP_nodeKind Np) (NP_nodeA Np) (NP_nodeB Np) (NP_nodeC Np) (NP_nodeNext Np) (NP_low Np) (NP_high Np) (NP_setFrom Np) (NP_setTo Np) (NP_setNot Np) (NP_nodes Np) (NP_sets Np) (NP_ranges Np) ((NP_pat Np) + (1:Int32)) (NP_patEnd Np) (1:Int32)) No Nx Nf Na Nh Nq Nj M0 tc)) C in_MM t_MM t_MM_ok n_MM hP (hDD _ _ _ _ _ _ _ _ _ _ _ _) hS 0 mw_0 rfl 32 (by decide) k_8_22 rfl rfl (by decide +kernel) rfl rfl (Nat.le_of_ble_eq_true rfl) rfl d_MM_escape_477 (fun H locs hP hS => ?_)
    refine lv_iconst (v := (0:Int32)) hx hb d_MM_escape_480 (by decide) ?_
    cases h
    exact o_ri (v := (0:Int32)) C hP hS d_MM_escape_481
  replace h := o_ff c48 h
  by_cases c49 : q1 = (82:Int32)
  · replace h := o_tt c49 h
    refine lv_tableIn (off := 458) (tgt := 475) hx hb d_MM_escape_17 (by rw [c49]; decide) (by rw [c49]; decide) (by rw [c49]; rfl) (by decide) ?_
    refine lv_aload_n hx hb d_MM_escape_475 rfl (lv_at hl 1 rfl) ?_
    refine lv_iconst (v := (1:Int32)) hx hb d_MM_escape_476 (by decide) ?_
    refine o_put (v := .int (1:Int32)) (ty := .boolean) (w1 := (m_cw ad ca ky ty 48 Ni (NP_mk (NP_nodeKind Np) (NP_nodeA Np) (NP_nodeB Np) (NP_nodeC Np) (NP_nodeNext Np) (NP_low Np) (NP_high Np) (NP_setFrom Np) (NP_setTo Np) (NP_setNot Np) (NP_nodes Np) (NP_sets Np) (NP_ranges Np) ((NP_pat Np) + (1:Int32)) (NP_patEnd Np) (1:Int32)) No Nx Nf Na Nh Nq Nj M0 tc)) C in_MM t_MM t_MM_ok n_MM hP (hDD _ _ _ _ _ _ _ _ _ _ _ _) hS 0 mw_0 rfl 32 (by decide) k_8_22 rfl rfl (by decide +kernel) rfl rfl (Nat.le_of_ble_eq_true rfl) rfl d_MM_escape_477 (fun H locs hP hS => ?_)
    refine lv_iconst (v := (0:Int32)) hx hb d_MM_escape_480 (by decide) ?_
    cases h
    exact o_ri (v := (0:Int32)) C hP hS d_MM_escape_481
  replace h := o_ff c49 h
  by_cases c50 : q1 = (83:Int32)
  · replace h := o_tt c50 h
    refine lv_tableIn (off := 375) (tgt := 392) hx hb d_MM_escape_17 (by rw [c50]; decide) (by rw [c50]; decide) (by rw [c50]; rfl) (by decide) ?_
    refine lv_aload_n hx hb d_MM_escape_392 rfl (lv_at hl 1 rfl) ?_
    refine lv_iload_n hx hb d_MM_escape_393 rfl (lv_at hl 0 rfl) ?_
    obtain ⟨q5, hq5, h⟩ := o_bd_some h
    refine o_V (st1 := []) (w1 := (m_cw ad ca ky ty 48 Ni q5 No Nx Nf Na Nh Nq Nj M0 tc)) hE.1 C (e_MM_set hE hKy l n q1 (NP_mk (NP_nodeKind Np) (NP_nodeA Np) (NP_nodeB Np) (NP_nodeC Np) (NP_nodeNext Np) (NP_low Np) (NP_high Np) (NP_setFrom Np) (NP_setTo Np) (NP_setNot Np) (NP_nodes Np) (NP_sets Np) (NP_ranges Np) ((NP_pat Np) + (1:Int32)) (NP_patEnd Np) (NP_broken Np)) Ni No Nx Nf Na Nh Nq Nj M0 tc 48 hq5) hP (hDD _ _ _ _ _ _ _ _ _ _ _ _) hS hl.1 rfl mw_0 k_9_98 k_9_100 k_s_96 k_1_12 k_9_101 hv_MM_set rfl rfl ⟨(Nat.le_of_ble_eq_true rfl), (Nat.le_of_ble_eq_true rfl)⟩ rfl (Nat.le_of_ble_eq_true rfl) ⟨Nat.zero_le _, Nat.zero_le _⟩ rfl d_MM_escape_394 (fun H locs hP hS => ?_)
    refine lv_iconst (v := (-1:Int32)) hx hb d_MM_escape_397 (by decide) ?_
    cases h
    exact o_ri (v := (-1:Int32)) C hP hS d_MM_escape_398
  replace h := o_ff c50 h
  by_cases c51 : q1 = (84:Int32)
  · replace h := o_tt c51 h
    refine lv_tableIn (off := 458) (tgt := 475) hx hb d_MM_escape_17 (by rw [c51]; decide) (by rw [c51]; decide) (by rw [c51]; rfl) (by decide) ?_
    refine lv_aload_n hx hb d_MM_escape_475 rfl (lv_at hl 1 rfl) ?_
    refine lv_iconst (v := (1:Int32)) hx hb d_MM_escape_476 (by decide) ?_
    refine o_put (v := .int (1:Int32)) (ty := .boolean) (w1 := (m_cw ad ca ky ty 48 Ni (NP_mk (NP_nodeKind Np) (NP_nodeA Np) (NP_nodeB Np) (NP_nodeC Np) (NP_nodeNext Np) (NP_low Np) (NP_high Np) (NP_setFrom Np) (NP_setTo Np) (NP_setNot Np) (NP_nodes Np) (NP_sets Np) (NP_ranges Np) ((NP_pat Np) + (1:Int32)) (NP_patEnd Np) (1:Int32)) No Nx Nf Na Nh Nq Nj M0 tc)) C in_MM t_MM t_MM_ok n_MM hP (hDD _ _ _ _ _ _ _ _ _ _ _ _) hS 0 mw_0 rfl 32 (by decide) k_8_22 rfl rfl (by decide +kernel) rfl rfl (Nat.le_of_ble_eq_true rfl) rfl d_MM_escape_477 (fun H locs hP hS => ?_)
    refine lv_iconst (v := (0:Int32)) hx hb d_MM_escape_480 (by decide) ?_
    cases h
    exact o_ri (v := (0:Int32)) C hP hS d_MM_escape_481
  replace h := o_ff c51 h
  by_cases c52 : q1 = (85:Int32)
  · replace h := o_tt c52 h
    refine lv_tableIn (off := 458) (tgt := 475) hx hb d_MM_escape_17 (by rw [c52]; decide) (by rw [c52]; decide) (by rw [c52]; rfl) (by decide) ?_
    refine lv_aload_n hx hb d_MM_escape_475 rfl (lv_at hl 1 rfl) ?_
    refine lv_iconst (v := (1:Int32)) hx hb d_MM_escape_476 (by decide) ?_
    refine o_put (v := .int (1:Int32)) (ty := .boolean) (w1 := (m_cw ad ca ky ty 48 Ni (NP_mk (NP_nodeKind Np) (NP_nodeA Np) (NP_nodeB Np) (NP_nodeC Np) (NP_nodeNext Np) (NP_low Np) (NP_high Np) (NP_setFrom Np) (NP_setTo Np) (NP_setNot Np) (NP_nodes Np) (NP_sets Np) (NP_ranges Np) ((NP_pat Np) + (1:Int32)) (NP_patEnd Np) (1:Int32)) No Nx Nf Na Nh Nq Nj M0 tc)) C in_MM t_MM t_MM_ok n_MM hP (hDD _ _ _ _ _ _ _ _ _ _ _ _) hS 0 mw_0 rfl 32 (by decide) k_8_22 rfl rfl (by decide +kernel) rfl rfl (Nat.le_of_ble_eq_true rfl) rfl d_MM_escape_477 (fun H locs hP hS => ?_)
    refine lv_iconst (v := (0:Int32)) hx hb d_MM_escape_480 (by decide) ?_
    cases h
    exact o_ri (v := (0:Int32)) C hP hS d_MM_escape_481
  replace h := o_ff c52 h
  by_cases c53 : q1 = (86:Int32)
  · replace h := o_tt c53 h
    refine lv_tableIn (off := 458) (tgt := 475) hx hb d_MM_escape_17 (by rw [c53]; decide) (by rw [c53]; decide) (by rw [c53]; rfl) (by decide) ?_
    refine lv_aload_n hx hb d_MM_escape_475 rfl (lv_at hl 1 rfl) ?_
    refine lv_iconst (v := (1:Int32)) hx hb d_MM_escape_476 (by decide) ?_
    refine o_put (v := .int (1:Int32)) (ty := .boolean) (w1 := (m_cw ad ca ky ty 48 Ni (NP_mk (NP_nodeKind Np) (NP_nodeA Np) (NP_nodeB Np) (NP_nodeC Np) (NP_nodeNext Np) (NP_low Np) (NP_high Np) (NP_setFrom Np) (NP_setTo Np) (NP_setNot Np) (NP_nodes Np) (NP_sets Np) (NP_ranges Np) ((NP_pat Np) + (1:Int32)) (NP_patEnd Np) (1:Int32)) No Nx Nf Na Nh Nq Nj M0 tc)) C in_MM t_MM t_MM_ok n_MM hP (hDD _ _ _ _ _ _ _ _ _ _ _ _) hS 0 mw_0 rfl 32 (by decide) k_8_22 rfl rfl (by decide +kernel) rfl rfl (Nat.le_of_ble_eq_true rfl) rfl d_MM_escape_477 (fun H locs hP hS => ?_)
    refine lv_iconst (v := (0:Int32)) hx hb d_MM_escape_480 (by decide) ?_
    cases h
    exact o_ri (v := (0:Int32)) C hP hS d_MM_escape_481
  replace h := o_ff c53 h
  by_cases c54 : q1 = (87:Int32)
  · replace h := o_tt c54 h
    refine lv_tableIn (off := 375) (tgt := 392) hx hb d_MM_escape_17 (by rw [c54]; decide) (by rw [c54]; decide) (by rw [c54]; rfl) (by decide) ?_
    refine lv_aload_n hx hb d_MM_escape_392 rfl (lv_at hl 1 rfl) ?_
    refine lv_iload_n hx hb d_MM_escape_393 rfl (lv_at hl 0 rfl) ?_
    obtain ⟨q6, hq6, h⟩ := o_bd_some h
    refine o_V (st1 := []) (w1 := (m_cw ad ca ky ty 48 Ni q6 No Nx Nf Na Nh Nq Nj M0 tc)) hE.1 C (e_MM_set hE hKy l n q1 (NP_mk (NP_nodeKind Np) (NP_nodeA Np) (NP_nodeB Np) (NP_nodeC Np) (NP_nodeNext Np) (NP_low Np) (NP_high Np) (NP_setFrom Np) (NP_setTo Np) (NP_setNot Np) (NP_nodes Np) (NP_sets Np) (NP_ranges Np) ((NP_pat Np) + (1:Int32)) (NP_patEnd Np) (NP_broken Np)) Ni No Nx Nf Na Nh Nq Nj M0 tc 48 hq6) hP (hDD _ _ _ _ _ _ _ _ _ _ _ _) hS hl.1 rfl mw_0 k_9_98 k_9_100 k_s_96 k_1_12 k_9_101 hv_MM_set rfl rfl ⟨(Nat.le_of_ble_eq_true rfl), (Nat.le_of_ble_eq_true rfl)⟩ rfl (Nat.le_of_ble_eq_true rfl) ⟨Nat.zero_le _, Nat.zero_le _⟩ rfl d_MM_escape_394 (fun H locs hP hS => ?_)
    refine lv_iconst (v := (-1:Int32)) hx hb d_MM_escape_397 (by decide) ?_
    cases h
    exact o_ri (v := (-1:Int32)) C hP hS d_MM_escape_398
  replace h := o_ff c54 h
  by_cases c55 : q1 = (88:Int32)
  · replace h := o_tt c55 h
    refine lv_tableIn (off := 458) (tgt := 475) hx hb d_MM_escape_17 (by rw [c55]; decide) (by rw [c55]; decide) (by rw [c55]; rfl) (by decide) ?_
    refine lv_aload_n hx hb d_MM_escape_475 rfl (lv_at hl 1 rfl) ?_
    refine lv_iconst (v := (1:Int32)) hx hb d_MM_escape_476 (by decide) ?_
    refine o_put (v := .int (1:Int32)) (ty := .boolean) (w1 := (m_cw ad ca ky ty 48 Ni (NP_mk (NP_nodeKind Np) (NP_nodeA Np) (NP_nodeB Np) (NP_nodeC Np) (NP_nodeNext Np) (NP_low Np) (NP_high Np) (NP_setFrom Np) (NP_setTo Np) (NP_setNot Np) (NP_nodes Np) (NP_sets Np) (NP_ranges Np) ((NP_pat Np) + (1:Int32)) (NP_patEnd Np) (1:Int32)) No Nx Nf Na Nh Nq Nj M0 tc)) C in_MM t_MM t_MM_ok n_MM hP (hDD _ _ _ _ _ _ _ _ _ _ _ _) hS 0 mw_0 rfl 32 (by decide) k_8_22 rfl rfl (by decide +kernel) rfl rfl (Nat.le_of_ble_eq_true rfl) rfl d_MM_escape_477 (fun H locs hP hS => ?_)
    refine lv_iconst (v := (0:Int32)) hx hb d_MM_escape_480 (by decide) ?_
    cases h
    exact o_ri (v := (0:Int32)) C hP hS d_MM_escape_481
  replace h := o_ff c55 h
  by_cases c56 : q1 = (89:Int32)
  · replace h := o_tt c56 h
    refine lv_tableIn (off := 458) (tgt := 475) hx hb d_MM_escape_17 (by rw [c56]; decide) (by rw [c56]; decide) (by rw [c56]; rfl) (by decide) ?_
    refine lv_aload_n hx hb d_MM_escape_475 rfl (lv_at hl 1 rfl) ?_
    refine lv_iconst (v := (1:Int32)) hx hb d_MM_escape_476 (by decide) ?_
    refine o_put (v := .int (1:Int32)) (ty := .boolean) (w1 := (m_cw ad ca ky ty 48 Ni (NP_mk (NP_nodeKind Np) (NP_nodeA Np) (NP_nodeB Np) (NP_nodeC Np) (NP_nodeNext Np) (NP_low Np) (NP_high Np) (NP_setFrom Np) (NP_setTo Np) (NP_setNot Np) (NP_nodes Np) (NP_sets Np) (NP_ranges Np) ((NP_pat Np) + (1:Int32)) (NP_patEnd Np) (1:Int32)) No Nx Nf Na Nh Nq Nj M0 tc)) C in_MM t_MM t_MM_ok n_MM hP (hDD _ _ _ _ _ _ _ _ _ _ _ _) hS 0 mw_0 rfl 32 (by decide) k_8_22 rfl rfl (by decide +kernel) rfl rfl (Nat.le_of_ble_eq_true rfl) rfl d_MM_escape_477 (fun H locs hP hS => ?_)
    refine lv_iconst (v := (0:Int32)) hx hb d_MM_escape_480 (by decide) ?_
    cases h
    exact o_ri (v := (0:Int32)) C hP hS d_MM_escape_481
  replace h := o_ff c56 h
  by_cases c57 : q1 = (90:Int32)
  · replace h := o_tt c57 h
    refine lv_tableIn (off := 458) (tgt := 475) hx hb d_MM_escape_17 (by rw [c57]; decide) (by rw [c57]; decide) (by rw [c57]; rfl) (by decide) ?_
    refine lv_aload_n hx hb d_MM_escape_475 rfl (lv_at hl 1 rfl) ?_
    refine lv_iconst (v := (1:Int32)) hx hb d_MM_escape_476 (by decide) ?_
    refine o_put (v := .int (1:Int32)) (ty := .boolean) (w1 := (m_cw ad ca ky ty 48 Ni (NP_mk (NP_nodeKind Np) (NP_nodeA Np) (NP_nodeB Np) (NP_nodeC Np) (NP_nodeNext Np) (NP_low Np) (NP_high Np) (NP_setFrom Np) (NP_setTo Np) (NP_setNot Np) (NP_nodes Np) (NP_sets Np) (NP_ranges Np) ((NP_pat Np) + (1:Int32)) (NP_patEnd Np) (1:Int32)) No Nx Nf Na Nh Nq Nj M0 tc)) C in_MM t_MM t_MM_ok n_MM hP (hDD _ _ _ _ _ _ _ _ _ _ _ _) hS 0 mw_0 rfl 32 (by decide) k_8_22 rfl rfl (by decide +kernel) rfl rfl (Nat.le_of_ble_eq_true rfl) rfl d_MM_escape_477 (fun H locs hP hS => ?_)
    refine lv_iconst (v := (0:Int32)) hx hb d_MM_escape_480 (by decide) ?_
    cases h
    exact o_ri (v := (0:Int32)) C hP hS d_MM_escape_481
  replace h := o_ff c57 h
  by_cases c58 : q1 = (91:Int32)
  · replace h := o_tt c58 h
    refine lv_tableIn (off := 456) (tgt := 473) hx hb d_MM_escape_17 (by rw [c58]; decide) (by rw [c58]; decide) (by rw [c58]; rfl) (by decide) ?_
    refine lv_iload_n hx hb d_MM_escape_473 rfl (lv_at hl 0 rfl) ?_
    cases h
    exact o_ri C hP hS d_MM_escape_474
  replace h := o_ff c58 h
  by_cases c59 : q1 = (92:Int32)
  · replace h := o_tt c59 h
    refine lv_tableIn (off := 456) (tgt := 473) hx hb d_MM_escape_17 (by rw [c59]; decide) (by rw [c59]; decide) (by rw [c59]; rfl) (by decide) ?_
    refine lv_iload_n hx hb d_MM_escape_473 rfl (lv_at hl 0 rfl) ?_
    cases h
    exact o_ri C hP hS d_MM_escape_474
  replace h := o_ff c59 h
  by_cases c60 : q1 = (93:Int32)
  · replace h := o_tt c60 h
    refine lv_tableIn (off := 456) (tgt := 473) hx hb d_MM_escape_17 (by rw [c60]; decide) (by rw [c60]; decide) (by rw [c60]; rfl) (by decide) ?_
    refine lv_iload_n hx hb d_MM_escape_473 rfl (lv_at hl 0 rfl) ?_
    cases h
    exact o_ri C hP hS d_MM_escape_474
  replace h := o_ff c60 h
  by_cases c61 : q1 = (94:Int32)
  · replace h := o_tt c61 h
    refine lv_tableIn (off := 456) (tgt := 473) hx hb d_MM_escape_17 (by rw [c61]; decide) (by rw [c61]; decide) (by rw [c61]; rfl) (by decide) ?_
    refine lv_iload_n hx hb d_MM_escape_473 rfl (lv_at hl 0 rfl) ?_
    cases h
    exact o_ri C hP hS d_MM_escape_474
  replace h := o_ff c61 h
  by_cases c62 : q1 = (95:Int32)
  · replace h := o_tt c62 h
    refine lv_tableIn (off := 458) (tgt := 475) hx hb d_MM_escape_17 (by rw [c62]; decide) (by rw [c62]; decide) (by rw [c62]; rfl) (by decide) ?_
    refine lv_aload_n hx hb d_MM_escape_475 rfl (lv_at hl 1 rfl) ?_
    refine lv_iconst (v := (1:Int32)) hx hb d_MM_escape_476 (by decide) ?_
    refine o_put (v := .int (1:Int32)) (ty := .boolean) (w1 := (m_cw ad ca ky ty 48 Ni (NP_mk (NP_nodeKind Np) (NP_nodeA Np) (NP_nodeB Np) (NP_nodeC Np) (NP_nodeNext Np) (NP_low Np) (NP_high Np) (NP_setFrom Np) (NP_setTo Np) (NP_setNot Np) (NP_nodes Np) (NP_sets Np) (NP_ranges Np) ((NP_pat Np) + (1:Int32)) (NP_patEnd Np) (1:Int32)) No Nx Nf Na Nh Nq Nj M0 tc)) C in_MM t_MM t_MM_ok n_MM hP (hDD _ _ _ _ _ _ _ _ _ _ _ _) hS 0 mw_0 rfl 32 (by decide) k_8_22 rfl rfl (by decide +kernel) rfl rfl (Nat.le_of_ble_eq_true rfl) rfl d_MM_escape_477 (fun H locs hP hS => ?_)
    refine lv_iconst (v := (0:Int32)) hx hb d_MM_escape_480 (by decide) ?_
    cases h
    exact o_ri (v := (0:Int32)) C hP hS d_MM_escape_481
  replace h := o_ff c62 h
  by_cases c63 : q1 = (96:Int32)
  · replace h := o_tt c63 h
    refine lv_tableIn (off := 458) (tgt := 475) hx hb d_MM_escape_17 (by rw [c63]; decide) (by rw [c63]; decide) (by rw [c63]; rfl) (by decide) ?_
    refine lv_aload_n hx hb d_MM_escape_475 rfl (lv_at hl 1 rfl) ?_
    refine lv_iconst (v := (1:Int32)) hx hb d_MM_escape_476 (by decide) ?_
    refine o_put (v := .int (1:Int32)) (ty := .boolean) (w1 := (m_cw ad ca ky ty 48 Ni (NP_mk (NP_nodeKind Np) (NP_nodeA Np) (NP_nodeB Np) (NP_nodeC Np) (NP_nodeNext Np) (NP_low Np) (NP_high Np) (NP_setFrom Np) (NP_setTo Np) (NP_setNot Np) (NP_nodes Np) (NP_sets Np) (NP_ranges Np) ((NP_pat Np) + (1:Int32)) (NP_patEnd Np) (1:Int32)) No Nx Nf Na Nh Nq Nj M0 tc)) C in_MM t_MM t_MM_ok n_MM hP (hDD _ _ _ _ _ _ _ _ _ _ _ _) hS 0 mw_0 rfl 32 (by decide) k_8_22 rfl rfl (by decide +kernel) rfl rfl (Nat.le_of_ble_eq_true rfl) rfl d_MM_escape_477 (fun H locs hP hS => ?_)
    refine lv_iconst (v := (0:Int32)) hx hb d_MM_escape_480 (by decide) ?_
    cases h
    exact o_ri (v := (0:Int32)) C hP hS d_MM_escape_481
  replace h := o_ff c63 h
  by_cases c64 : q1 = (97:Int32)
  · replace h := o_tt c64 h
    refine lv_tableIn (off := 458) (tgt := 475) hx hb d_MM_escape_17 (by rw [c64]; decide) (by rw [c64]; decide) (by rw [c64]; rfl) (by decide) ?_
    refine lv_aload_n hx hb d_MM_escape_475 rfl (lv_at hl 1 rfl) ?_
    refine lv_iconst (v := (1:Int32)) hx hb d_MM_escape_476 (by decide) ?_
    refine o_put (v := .int (1:Int32)) (ty := .boolean) (w1 := (m_cw ad ca ky ty 48 Ni (NP_mk (NP_nodeKind Np) (NP_nodeA Np) (NP_nodeB Np) (NP_nodeC Np) (NP_nodeNext Np) (NP_low Np) (NP_high Np) (NP_setFrom Np) (NP_setTo Np) (NP_setNot Np) (NP_nodes Np) (NP_sets Np) (NP_ranges Np) ((NP_pat Np) + (1:Int32)) (NP_patEnd Np) (1:Int32)) No Nx Nf Na Nh Nq Nj M0 tc)) C in_MM t_MM t_MM_ok n_MM hP (hDD _ _ _ _ _ _ _ _ _ _ _ _) hS 0 mw_0 rfl 32 (by decide) k_8_22 rfl rfl (by decide +kernel) rfl rfl (Nat.le_of_ble_eq_true rfl) rfl d_MM_escape_477 (fun H locs hP hS => ?_)
    refine lv_iconst (v := (0:Int32)) hx hb d_MM_escape_480 (by decide) ?_
    cases h
    exact o_ri (v := (0:Int32)) C hP hS d_MM_escape_481
  replace h := o_ff c64 h
  by_cases c65 : q1 = (98:Int32)
  · replace h := o_tt c65 h
    refine lv_tableIn (off := 430) (tgt := 447) hx hb d_MM_escape_17 (by rw [c65]; decide) (by rw [c65]; decide) (by rw [c65]; rfl) (by decide) ?_
    refine lv_iload_n hx hb d_MM_escape_447 rfl (lv_at hl 2 rfl) ?_
    refine lv_if_eq (tgt := 454) hx hb d_MM_escape_448 (by decide) (fun c66 => ?_) (fun c66 => ?_)
    · replace h := o_tt c66 h
      refine lv_aload_n hx hb d_MM_escape_454 rfl (lv_at hl 1 rfl) ?_
      refine lv_iconst (v := (1:Int32)) hx hb d_MM_escape_455 (by decide) ?_
      refine o_put (v := .int (1:Int32)) (ty := .boolean) (w1 := (m_cw ad ca ky ty 48 Ni (NP_mk (NP_nodeKind Np) (NP_nodeA Np) (NP_nodeB Np) (NP_nodeC Np) (NP_nodeNext Np) (NP_low Np) (NP_high Np) (NP_setFrom Np) (NP_setTo Np) (NP_setNot Np) (NP_nodes Np) (NP_sets Np) (NP_ranges Np) ((NP_pat Np) + (1:Int32)) (NP_patEnd Np) (1:Int32)) No Nx Nf Na Nh Nq Nj M0 tc)) C in_MM t_MM t_MM_ok n_MM hP (hDD _ _ _ _ _ _ _ _ _ _ _ _) hS 0 mw_0 rfl 32 (by decide) k_8_22 rfl rfl (by decide +kernel) rfl rfl (Nat.le_of_ble_eq_true rfl) rfl d_MM_escape_456 (fun H locs hP hS => ?_)
      refine lv_iconst (v := (0:Int32)) hx hb d_MM_escape_459 (by decide) ?_
      cases h
      exact o_ri (v := (0:Int32)) C hP hS d_MM_escape_460
    · replace h := o_ff c66 h
      refine lv_bipush (v := (8:Int32)) hx hb d_MM_escape_451 (by decide) ?_
      cases h
      exact o_ri (v := (8:Int32)) C hP hS d_MM_escape_453
  replace h := o_ff c65 h
  by_cases c67 : q1 = (99:Int32)
  · replace h := o_tt c67 h
    refine lv_tableIn (off := 458) (tgt := 475) hx hb d_MM_escape_17 (by rw [c67]; decide) (by rw [c67]; decide) (by rw [c67]; rfl) (by decide) ?_
    refine lv_aload_n hx hb d_MM_escape_475 rfl (lv_at hl 1 rfl) ?_
    refine lv_iconst (v := (1:Int32)) hx hb d_MM_escape_476 (by decide) ?_
    refine o_put (v := .int (1:Int32)) (ty := .boolean) (w1 := (m_cw ad ca ky ty 48 Ni (NP_mk (NP_nodeKind Np) (NP_nodeA Np) (NP_nodeB Np) (NP_nodeC Np) (NP_nodeNext Np) (NP_low Np) (NP_high Np) (NP_setFrom Np) (NP_setTo Np) (NP_setNot Np) (NP_nodes Np) (NP_sets Np) (NP_ranges Np) ((NP_pat Np) + (1:Int32)) (NP_patEnd Np) (1:Int32)) No Nx Nf Na Nh Nq Nj M0 tc)) C in_MM t_MM t_MM_ok n_MM hP (hDD _ _ _ _ _ _ _ _ _ _ _ _) hS 0 mw_0 rfl 32 (by decide) k_8_22 rfl rfl (by decide +kernel) rfl rfl (Nat.le_of_ble_eq_true rfl) rfl d_MM_escape_477 (fun H locs hP hS => ?_)
    refine lv_iconst (v := (0:Int32)) hx hb d_MM_escape_480 (by decide) ?_
    cases h
    exact o_ri (v := (0:Int32)) C hP hS d_MM_escape_481
  replace h := o_ff c67 h
  by_cases c68 : q1 = (100:Int32)
  · replace h := o_tt c68 h
    refine lv_tableIn (off := 375) (tgt := 392) hx hb d_MM_escape_17 (by rw [c68]; decide) (by rw [c68]; decide) (by rw [c68]; rfl) (by decide) ?_
    refine lv_aload_n hx hb d_MM_escape_392 rfl (lv_at hl 1 rfl) ?_
    refine lv_iload_n hx hb d_MM_escape_393 rfl (lv_at hl 0 rfl) ?_
    obtain ⟨q7, hq7, h⟩ := o_bd_some h
    refine o_V (st1 := []) (w1 := (m_cw ad ca ky ty 48 Ni q7 No Nx Nf Na Nh Nq Nj M0 tc)) hE.1 C (e_MM_set hE hKy l n q1 (NP_mk (NP_nodeKind Np) (NP_nodeA Np) (NP_nodeB Np) (NP_nodeC Np) (NP_nodeNext Np) (NP_low Np) (NP_high Np) (NP_setFrom Np) (NP_setTo Np) (NP_setNot Np) (NP_nodes Np) (NP_sets Np) (NP_ranges Np) ((NP_pat Np) + (1:Int32)) (NP_patEnd Np) (NP_broken Np)) Ni No Nx Nf Na Nh Nq Nj M0 tc 48 hq7) hP (hDD _ _ _ _ _ _ _ _ _ _ _ _) hS hl.1 rfl mw_0 k_9_98 k_9_100 k_s_96 k_1_12 k_9_101 hv_MM_set rfl rfl ⟨(Nat.le_of_ble_eq_true rfl), (Nat.le_of_ble_eq_true rfl)⟩ rfl (Nat.le_of_ble_eq_true rfl) ⟨Nat.zero_le _, Nat.zero_le _⟩ rfl d_MM_escape_394 (fun H locs hP hS => ?_)
    refine lv_iconst (v := (-1:Int32)) hx hb d_MM_escape_397 (by decide) ?_
    cases h
    exact o_ri (v := (-1:Int32)) C hP hS d_MM_escape_398
  replace h := o_ff c68 h
  by_cases c69 : q1 = (101:Int32)
  · replace h := o_tt c69 h
    refine lv_tableIn (off := 458) (tgt := 475) hx hb d_MM_escape_17 (by rw [c69]; decide) (by rw [c69]; decide) (by rw [c69]; rfl) (by decide) ?_
    refine lv_aload_n hx hb d_MM_escape_475 rfl (lv_at hl 1 rfl) ?_
    refine lv_iconst (v := (1:Int32)) hx hb d_MM_escape_476 (by decide) ?_
    refine o_put (v := .int (1:Int32)) (ty := .boolean) (w1 := (m_cw ad ca ky ty 48 Ni (NP_mk (NP_nodeKind Np) (NP_nodeA Np) (NP_nodeB Np) (NP_nodeC Np) (NP_nodeNext Np) (NP_low Np) (NP_high Np) (NP_setFrom Np) (NP_setTo Np) (NP_setNot Np) (NP_nodes Np) (NP_sets Np) (NP_ranges Np) ((NP_pat Np) + (1:Int32)) (NP_patEnd Np) (1:Int32)) No Nx Nf Na Nh Nq Nj M0 tc)) C in_MM t_MM t_MM_ok n_MM hP (hDD _ _ _ _ _ _ _ _ _ _ _ _) hS 0 mw_0 rfl 32 (by decide) k_8_22 rfl rfl (by decide +kernel) rfl rfl (Nat.le_of_ble_eq_true rfl) rfl d_MM_escape_477 (fun H locs hP hS => ?_)
    refine lv_iconst (v := (0:Int32)) hx hb d_MM_escape_480 (by decide) ?_
    cases h
    exact o_ri (v := (0:Int32)) C hP hS d_MM_escape_481
  replace h := o_ff c69 h
  by_cases c70 : q1 = (102:Int32)
  · replace h := o_tt c70 h
    refine lv_tableIn (off := 391) (tgt := 408) hx hb d_MM_escape_17 (by rw [c70]; decide) (by rw [c70]; decide) (by rw [c70]; rfl) (by decide) ?_
    refine lv_bipush (v := (12:Int32)) hx hb d_MM_escape_408 (by decide) ?_
    cases h
    exact o_ri (v := (12:Int32)) C hP hS d_MM_escape_410
  replace h := o_ff c70 h
  by_cases c71 : q1 = (103:Int32)
  · replace h := o_tt c71 h
    refine lv_tableIn (off := 458) (tgt := 475) hx hb d_MM_escape_17 (by rw [c71]; decide) (by rw [c71]; decide) (by rw [c71]; rfl) (by decide) ?_
    refine lv_aload_n hx hb d_MM_escape_475 rfl (lv_at hl 1 rfl) ?_
    refine lv_iconst (v := (1:Int32)) hx hb d_MM_escape_476 (by decide) ?_
    refine o_put (v := .int (1:Int32)) (ty := .boolean) (w1 := (m_cw ad ca ky ty 48 Ni (NP_mk (NP_nodeKind Np) (NP_nodeA Np) (NP_nodeB Np) (NP_nodeC Np) (NP_nodeNext Np) (NP_low Np) (NP_high Np) (NP_setFrom Np) (NP_setTo Np) (NP_setNot Np) (NP_nodes Np) (NP_sets Np) (NP_ranges Np) ((NP_pat Np) + (1:Int32)) (NP_patEnd Np) (1:Int32)) No Nx Nf Na Nh Nq Nj M0 tc)) C in_MM t_MM t_MM_ok n_MM hP (hDD _ _ _ _ _ _ _ _ _ _ _ _) hS 0 mw_0 rfl 32 (by decide) k_8_22 rfl rfl (by decide +kernel) rfl rfl (Nat.le_of_ble_eq_true rfl) rfl d_MM_escape_477 (fun H locs hP hS => ?_)
    refine lv_iconst (v := (0:Int32)) hx hb d_MM_escape_480 (by decide) ?_
    cases h
    exact o_ri (v := (0:Int32)) C hP hS d_MM_escape_481
  replace h := o_ff c71 h
  by_cases c72 : q1 = (104:Int32)
  · replace h := o_tt c72 h
    refine lv_tableIn (off := 458) (tgt := 475) hx hb d_MM_escape_17 (by rw [c72]; decide) (by rw [c72]; decide) (by rw [c72]; rfl) (by decide) ?_
    refine lv_aload_n hx hb d_MM_escape_475 rfl (lv_at hl 1 rfl) ?_
    refine lv_iconst (v := (1:Int32)) hx hb d_MM_escape_476 (by decide) ?_
    refine o_put (v := .int (1:Int32)) (ty := .boolean) (w1 := (m_cw ad ca ky ty 48 Ni (NP_mk (NP_nodeKind Np) (NP_nodeA Np) (NP_nodeB Np) (NP_nodeC Np) (NP_nodeNext Np) (NP_low Np) (NP_high Np) (NP_setFrom Np) (NP_setTo Np) (NP_setNot Np) (NP_nodes Np) (NP_sets Np) (NP_ranges Np) ((NP_pat Np) + (1:Int32)) (NP_patEnd Np) (1:Int32)) No Nx Nf Na Nh Nq Nj M0 tc)) C in_MM t_MM t_MM_ok n_MM hP (hDD _ _ _ _ _ _ _ _ _ _ _ _) hS 0 mw_0 rfl 32 (by decide) k_8_22 rfl rfl (by decide +kernel) rfl rfl (Nat.le_of_ble_eq_true rfl) rfl d_MM_escape_477 (fun H locs hP hS => ?_)
    refine lv_iconst (v := (0:Int32)) hx hb d_MM_escape_480 (by decide) ?_
    cases h
    exact o_ri (v := (0:Int32)) C hP hS d_MM_escape_481
  replace h := o_ff c72 h
  by_cases c73 : q1 = (105:Int32)
  · replace h := o_tt c73 h
    refine lv_tableIn (off := 458) (tgt := 475) hx hb d_MM_escape_17 (by rw [c73]; decide) (by rw [c73]; decide) (by rw [c73]; rfl) (by decide) ?_
    refine lv_aload_n hx hb d_MM_escape_475 rfl (lv_at hl 1 rfl) ?_
    refine lv_iconst (v := (1:Int32)) hx hb d_MM_escape_476 (by decide) ?_
    refine o_put (v := .int (1:Int32)) (ty := .boolean) (w1 := (m_cw ad ca ky ty 48 Ni (NP_mk (NP_nodeKind Np) (NP_nodeA Np) (NP_nodeB Np) (NP_nodeC Np) (NP_nodeNext Np) (NP_low Np) (NP_high Np) (NP_setFrom Np) (NP_setTo Np) (NP_setNot Np) (NP_nodes Np) (NP_sets Np) (NP_ranges Np) ((NP_pat Np) + (1:Int32)) (NP_patEnd Np) (1:Int32)) No Nx Nf Na Nh Nq Nj M0 tc)) C in_MM t_MM t_MM_ok n_MM hP (hDD _ _ _ _ _ _ _ _ _ _ _ _) hS 0 mw_0 rfl 32 (by decide) k_8_22 rfl rfl (by decide +kernel) rfl rfl (Nat.le_of_ble_eq_true rfl) rfl d_MM_escape_477 (fun H locs hP hS => ?_)
    refine lv_iconst (v := (0:Int32)) hx hb d_MM_escape_480 (by decide) ?_
    cases h
    exact o_ri (v := (0:Int32)) C hP hS d_MM_escape_481
  replace h := o_ff c73 h
  by_cases c74 : q1 = (106:Int32)
  · replace h := o_tt c74 h
    refine lv_tableIn (off := 458) (tgt := 475) hx hb d_MM_escape_17 (by rw [c74]; decide) (by rw [c74]; decide) (by rw [c74]; rfl) (by decide) ?_
    refine lv_aload_n hx hb d_MM_escape_475 rfl (lv_at hl 1 rfl) ?_
    refine lv_iconst (v := (1:Int32)) hx hb d_MM_escape_476 (by decide) ?_
    refine o_put (v := .int (1:Int32)) (ty := .boolean) (w1 := (m_cw ad ca ky ty 48 Ni (NP_mk (NP_nodeKind Np) (NP_nodeA Np) (NP_nodeB Np) (NP_nodeC Np) (NP_nodeNext Np) (NP_low Np) (NP_high Np) (NP_setFrom Np) (NP_setTo Np) (NP_setNot Np) (NP_nodes Np) (NP_sets Np) (NP_ranges Np) ((NP_pat Np) + (1:Int32)) (NP_patEnd Np) (1:Int32)) No Nx Nf Na Nh Nq Nj M0 tc)) C in_MM t_MM t_MM_ok n_MM hP (hDD _ _ _ _ _ _ _ _ _ _ _ _) hS 0 mw_0 rfl 32 (by decide) k_8_22 rfl rfl (by decide +kernel) rfl rfl (Nat.le_of_ble_eq_true rfl) rfl d_MM_escape_477 (fun H locs hP hS => ?_)
    refine lv_iconst (v := (0:Int32)) hx hb d_MM_escape_480 (by decide) ?_
    cases h
    exact o_ri (v := (0:Int32)) C hP hS d_MM_escape_481
  replace h := o_ff c74 h
  by_cases c75 : q1 = (107:Int32)
  · replace h := o_tt c75 h
    refine lv_tableIn (off := 458) (tgt := 475) hx hb d_MM_escape_17 (by rw [c75]; decide) (by rw [c75]; decide) (by rw [c75]; rfl) (by decide) ?_
    refine lv_aload_n hx hb d_MM_escape_475 rfl (lv_at hl 1 rfl) ?_
    refine lv_iconst (v := (1:Int32)) hx hb d_MM_escape_476 (by decide) ?_
    refine o_put (v := .int (1:Int32)) (ty := .boolean) (w1 := (m_cw ad ca ky ty 48 Ni (NP_mk (NP_nodeKind Np) (NP_nodeA Np) (NP_nodeB Np) (NP_nodeC Np) (NP_nodeNext Np) (NP_low Np) (NP_high Np) (NP_setFrom Np) (NP_setTo Np) (NP_setNot Np) (NP_nodes Np) (NP_sets Np) (NP_ranges Np) ((NP_pat Np) + (1:Int32)) (NP_patEnd Np) (1:Int32)) No Nx Nf Na Nh Nq Nj M0 tc)) C in_MM t_MM t_MM_ok n_MM hP (hDD _ _ _ _ _ _ _ _ _ _ _ _) hS 0 mw_0 rfl 32 (by decide) k_8_22 rfl rfl (by decide +kernel) rfl rfl (Nat.le_of_ble_eq_true rfl) rfl d_MM_escape_477 (fun H locs hP hS => ?_)
    refine lv_iconst (v := (0:Int32)) hx hb d_MM_escape_480 (by decide) ?_
    cases h
    exact o_ri (v := (0:Int32)) C hP hS d_MM_escape_481
  replace h := o_ff c75 h
  by_cases c76 : q1 = (108:Int32)
  · replace h := o_tt c76 h
    refine lv_tableIn (off := 458) (tgt := 475) hx hb d_MM_escape_17 (by rw [c76]; decide) (by rw [c76]; decide) (by rw [c76]; rfl) (by decide) ?_
    refine lv_aload_n hx hb d_MM_escape_475 rfl (lv_at hl 1 rfl) ?_
    refine lv_iconst (v := (1:Int32)) hx hb d_MM_escape_476 (by decide) ?_
    refine o_put (v := .int (1:Int32)) (ty := .boolean) (w1 := (m_cw ad ca ky ty 48 Ni (NP_mk (NP_nodeKind Np) (NP_nodeA Np) (NP_nodeB Np) (NP_nodeC Np) (NP_nodeNext Np) (NP_low Np) (NP_high Np) (NP_setFrom Np) (NP_setTo Np) (NP_setNot Np) (NP_nodes Np) (NP_sets Np) (NP_ranges Np) ((NP_pat Np) + (1:Int32)) (NP_patEnd Np) (1:Int32)) No Nx Nf Na Nh Nq Nj M0 tc)) C in_MM t_MM t_MM_ok n_MM hP (hDD _ _ _ _ _ _ _ _ _ _ _ _) hS 0 mw_0 rfl 32 (by decide) k_8_22 rfl rfl (by decide +kernel) rfl rfl (Nat.le_of_ble_eq_true rfl) rfl d_MM_escape_477 (fun H locs hP hS => ?_)
    refine lv_iconst (v := (0:Int32)) hx hb d_MM_escape_480 (by decide) ?_
    cases h
    exact o_ri (v := (0:Int32)) C hP hS d_MM_escape_481
  replace h := o_ff c76 h
  by_cases c77 : q1 = (109:Int32)
  · replace h := o_tt c77 h
    refine lv_tableIn (off := 458) (tgt := 475) hx hb d_MM_escape_17 (by rw [c77]; decide) (by rw [c77]; decide) (by rw [c77]; rfl) (by decide) ?_
    refine lv_aload_n hx hb d_MM_escape_475 rfl (lv_at hl 1 rfl) ?_
    refine lv_iconst (v := (1:Int32)) hx hb d_MM_escape_476 (by decide) ?_
    refine o_put (v := .int (1:Int32)) (ty := .boolean) (w1 := (m_cw ad ca ky ty 48 Ni (NP_mk (NP_nodeKind Np) (NP_nodeA Np) (NP_nodeB Np) (NP_nodeC Np) (NP_nodeNext Np) (NP_low Np) (NP_high Np) (NP_setFrom Np) (NP_setTo Np) (NP_setNot Np) (NP_nodes Np) (NP_sets Np) (NP_ranges Np) ((NP_pat Np) + (1:Int32)) (NP_patEnd Np) (1:Int32)) No Nx Nf Na Nh Nq Nj M0 tc)) C in_MM t_MM t_MM_ok n_MM hP (hDD _ _ _ _ _ _ _ _ _ _ _ _) hS 0 mw_0 rfl 32 (by decide) k_8_22 rfl rfl (by decide +kernel) rfl rfl (Nat.le_of_ble_eq_true rfl) rfl d_MM_escape_477 (fun H locs hP hS => ?_)
    refine lv_iconst (v := (0:Int32)) hx hb d_MM_escape_480 (by decide) ?_
    cases h
    exact o_ri (v := (0:Int32)) C hP hS d_MM_escape_481
  replace h := o_ff c77 h
  by_cases c78 : q1 = (110:Int32)
  · replace h := o_tt c78 h
    refine lv_tableIn (off := 385) (tgt := 402) hx hb d_MM_escape_17 (by rw [c78]; decide) (by rw [c78]; decide) (by rw [c78]; rfl) (by decide) ?_
    refine lv_bipush (v := (10:Int32)) hx hb d_MM_escape_402 (by decide) ?_
    cases h
    exact o_ri (v := (10:Int32)) C hP hS d_MM_escape_404
  replace h := o_ff c78 h
  by_cases c79 : q1 = (111:Int32)
  · replace h := o_tt c79 h
    refine lv_tableIn (off := 458) (tgt := 475) hx hb d_MM_escape_17 (by rw [c79]; decide) (by rw [c79]; decide) (by rw [c79]; rfl) (by decide) ?_
    refine lv_aload_n hx hb d_MM_escape_475 rfl (lv_at hl 1 rfl) ?_
    refine lv_iconst (v := (1:Int32)) hx hb d_MM_escape_476 (by decide) ?_
    refine o_put (v := .int (1:Int32)) (ty := .boolean) (w1 := (m_cw ad ca ky ty 48 Ni (NP_mk (NP_nodeKind Np) (NP_nodeA Np) (NP_nodeB Np) (NP_nodeC Np) (NP_nodeNext Np) (NP_low Np) (NP_high Np) (NP_setFrom Np) (NP_setTo Np) (NP_setNot Np) (NP_nodes Np) (NP_sets Np) (NP_ranges Np) ((NP_pat Np) + (1:Int32)) (NP_patEnd Np) (1:Int32)) No Nx Nf Na Nh Nq Nj M0 tc)) C in_MM t_MM t_MM_ok n_MM hP (hDD _ _ _ _ _ _ _ _ _ _ _ _) hS 0 mw_0 rfl 32 (by decide) k_8_22 rfl rfl (by decide +kernel) rfl rfl (Nat.le_of_ble_eq_true rfl) rfl d_MM_escape_477 (fun H locs hP hS => ?_)
    refine lv_iconst (v := (0:Int32)) hx hb d_MM_escape_480 (by decide) ?_
    cases h
    exact o_ri (v := (0:Int32)) C hP hS d_MM_escape_481
  replace h := o_ff c79 h
  by_cases c80 : q1 = (112:Int32)
  · replace h := o_tt c80 h
    refine lv_tableIn (off := 458) (tgt := 475) hx hb d_MM_escape_17 (by rw [c80]; decide) (by rw [c80]; decide) (by rw [c80]; rfl) (by decide) ?_
    refine lv_aload_n hx hb d_MM_escape_475 rfl (lv_at hl 1 rfl) ?_
    refine lv_iconst (v := (1:Int32)) hx hb d_MM_escape_476 (by decide) ?_
    refine o_put (v := .int (1:Int32)) (ty := .boolean) (w1 := (m_cw ad ca ky ty 48 Ni (NP_mk (NP_nodeKind Np) (NP_nodeA Np) (NP_nodeB Np) (NP_nodeC Np) (NP_nodeNext Np) (NP_low Np) (NP_high Np) (NP_setFrom Np) (NP_setTo Np) (NP_setNot Np) (NP_nodes Np) (NP_sets Np) (NP_ranges Np) ((NP_pat Np) + (1:Int32)) (NP_patEnd Np) (1:Int32)) No Nx Nf Na Nh Nq Nj M0 tc)) C in_MM t_MM t_MM_ok n_MM hP (hDD _ _ _ _ _ _ _ _ _ _ _ _) hS 0 mw_0 rfl 32 (by decide) k_8_22 rfl rfl (by decide +kernel) rfl rfl (Nat.le_of_ble_eq_true rfl) rfl d_MM_escape_477 (fun H locs hP hS => ?_)
    refine lv_iconst (v := (0:Int32)) hx hb d_MM_escape_480 (by decide) ?_
    cases h
    exact o_ri (v := (0:Int32)) C hP hS d_MM_escape_481
  replace h := o_ff c80 h
  by_cases c81 : q1 = (113:Int32)
  · replace h := o_tt c81 h
    refine lv_tableIn (off := 458) (tgt := 475) hx hb d_MM_escape_17 (by rw [c81]; decide) (by rw [c81]; decide) (by rw [c81]; rfl) (by decide) ?_
    refine lv_aload_n hx hb d_MM_escape_475 rfl (lv_at hl 1 rfl) ?_
    refine lv_iconst (v := (1:Int32)) hx hb d_MM_escape_476 (by decide) ?_
    refine o_put (v := .int (1:Int32)) (ty := .boolean) (w1 := (m_cw ad ca ky ty 48 Ni (NP_mk (NP_nodeKind Np) (NP_nodeA Np) (NP_nodeB Np) (NP_nodeC Np) (NP_nodeNext Np) (NP_low Np) (NP_high Np) (NP_setFrom Np) (NP_setTo Np) (NP_setNot Np) (NP_nodes Np) (NP_sets Np) (NP_ranges Np) ((NP_pat Np) + (1:Int32)) (NP_patEnd Np) (1:Int32)) No Nx Nf Na Nh Nq Nj M0 tc)) C in_MM t_MM t_MM_ok n_MM hP (hDD _ _ _ _ _ _ _ _ _ _ _ _) hS 0 mw_0 rfl 32 (by decide) k_8_22 rfl rfl (by decide +kernel) rfl rfl (Nat.le_of_ble_eq_true rfl) rfl d_MM_escape_477 (fun H locs hP hS => ?_)
    refine lv_iconst (v := (0:Int32)) hx hb d_MM_escape_480 (by decide) ?_
    cases h
    exact o_ri (v := (0:Int32)) C hP hS d_MM_escape_481
  replace h := o_ff c81 h
  by_cases c82 : q1 = (114:Int32)
  · replace h := o_tt c82 h
    refine lv_tableIn (off := 394) (tgt := 411) hx hb d_MM_escape_17 (by rw [c82]; decide) (by rw [c82]; decide) (by rw [c82]; rfl) (by decide) ?_
    refine lv_bipush (v := (13:Int32)) hx hb d_MM_escape_411 (by decide) ?_
    cases h
    exact o_ri (v := (13:Int32)) C hP hS d_MM_escape_413
  replace h := o_ff c82 h
  by_cases c83 : q1 = (115:Int32)
  · replace h := o_tt c83 h
    refine lv_tableIn (off := 375) (tgt := 392) hx hb d_MM_escape_17 (by rw [c83]; decide) (by rw [c83]; decide) (by rw [c83]; rfl) (by decide) ?_
    refine lv_aload_n hx hb d_MM_escape_392 rfl (lv_at hl 1 rfl) ?_
    refine lv_iload_n hx hb d_MM_escape_393 rfl (lv_at hl 0 rfl) ?_
    obtain ⟨q8, hq8, h⟩ := o_bd_some h
    refine o_V (st1 := []) (w1 := (m_cw ad ca ky ty 48 Ni q8 No Nx Nf Na Nh Nq Nj M0 tc)) hE.1 C (e_MM_set hE hKy l n q1 (NP_mk (NP_nodeKind Np) (NP_nodeA Np) (NP_nodeB Np) (NP_nodeC Np) (NP_nodeNext Np) (NP_low Np) (NP_high Np) (NP_setFrom Np) (NP_setTo Np) (NP_setNot Np) (NP_nodes Np) (NP_sets Np) (NP_ranges Np) ((NP_pat Np) + (1:Int32)) (NP_patEnd Np) (NP_broken Np)) Ni No Nx Nf Na Nh Nq Nj M0 tc 48 hq8) hP (hDD _ _ _ _ _ _ _ _ _ _ _ _) hS hl.1 rfl mw_0 k_9_98 k_9_100 k_s_96 k_1_12 k_9_101 hv_MM_set rfl rfl ⟨(Nat.le_of_ble_eq_true rfl), (Nat.le_of_ble_eq_true rfl)⟩ rfl (Nat.le_of_ble_eq_true rfl) ⟨Nat.zero_le _, Nat.zero_le _⟩ rfl d_MM_escape_394 (fun H locs hP hS => ?_)
    refine lv_iconst (v := (-1:Int32)) hx hb d_MM_escape_397 (by decide) ?_
    cases h
    exact o_ri (v := (-1:Int32)) C hP hS d_MM_escape_398
  replace h := o_ff c83 h
  by_cases c84 : q1 = (116:Int32)
  · replace h := o_tt c84 h
    refine lv_tableIn (off := 382) (tgt := 399) hx hb d_MM_escape_17 (by rw [c84]; decide) (by rw [c84]; decide) (by rw [c84]; rfl) (by decide) ?_
    refine lv_bipush (v := (9:Int32)) hx hb d_MM_escape_399 (by decide) ?_
    cases h
    exact o_ri (v := (9:Int32)) C hP hS d_MM_escape_401
  replace h := o_ff c84 h
  by_cases c85 : q1 = (117:Int32)
  · replace h := o_tt c85 h
    refine lv_tableIn (off := 425) (tgt := 442) hx hb d_MM_escape_17 (by rw [c85]; decide) (by rw [c85]; decide) (by rw [c85]; rfl) (by decide) ?_
    refine lv_aload_n hx hb d_MM_escape_442 rfl (lv_at hl 1 rfl) ?_
    obtain ⟨q9, hq9, h⟩ := o_bd_some h
    refine o_V (st1 := [.int q9.1]) (w1 := (m_cw ad ca ky ty 48 Ni q9.2 No Nx Nf Na Nh Nq Nj M0 tc)) hE.1 C (e_MM_unicode_b hE hKy l n tc (NP_mk (NP_nodeKind Np) (NP_nodeA Np) (NP_nodeB Np) (NP_nodeC Np) (NP_nodeNext Np) (NP_low Np) (NP_high Np) (NP_setFrom Np) (NP_setTo Np) (NP_setNot Np) (NP_nodes Np) (NP_sets Np) (NP_ranges Np) ((NP_pat Np) + (1:Int32)) (NP_patEnd Np) (NP_broken Np)) Ni No Nx Nf Na Nh Nq Nj M0 hq9) hP (hDD _ _ _ _ _ _ _ _ _ _ _ _) hS hl.1 rfl mw_0 k_9_113 k_9_115 k_s_99 k_1_12 k_9_116 hv_MM_unicode rfl rfl ⟨(Nat.le_of_ble_eq_true rfl), (Nat.le_of_ble_eq_true rfl)⟩ rfl (Nat.le_of_ble_eq_true rfl) ⟨Nat.zero_le _, Nat.zero_le _⟩ rfl d_MM_escape_443 (fun H locs hP hS => ?_)
    cases h
    exact o_ri C hP hS d_MM_escape_446
  replace h := o_ff c85 h
  by_cases c86 : q1 = (118:Int32)
  · replace h := o_tt c86 h
    refine lv_tableIn (off := 388) (tgt := 405) hx hb d_MM_escape_17 (by rw [c86]; decide) (by rw [c86]; decide) (by rw [c86]; rfl) (by decide) ?_
    refine lv_bipush (v := (11:Int32)) hx hb d_MM_escape_405 (by decide) ?_
    cases h
    exact o_ri (v := (11:Int32)) C hP hS d_MM_escape_407
  replace h := o_ff c86 h
  by_cases c87 : q1 = (119:Int32)
  · replace h := o_tt c87 h
    refine lv_tableIn (off := 375) (tgt := 392) hx hb d_MM_escape_17 (by rw [c87]; decide) (by rw [c87]; decide) (by rw [c87]; rfl) (by decide) ?_
    refine lv_aload_n hx hb d_MM_escape_392 rfl (lv_at hl 1 rfl) ?_
    refine lv_iload_n hx hb d_MM_escape_393 rfl (lv_at hl 0 rfl) ?_
    obtain ⟨q10, hq10, h⟩ := o_bd_some h
    refine o_V (st1 := []) (w1 := (m_cw ad ca ky ty 48 Ni q10 No Nx Nf Na Nh Nq Nj M0 tc)) hE.1 C (e_MM_set hE hKy l n q1 (NP_mk (NP_nodeKind Np) (NP_nodeA Np) (NP_nodeB Np) (NP_nodeC Np) (NP_nodeNext Np) (NP_low Np) (NP_high Np) (NP_setFrom Np) (NP_setTo Np) (NP_setNot Np) (NP_nodes Np) (NP_sets Np) (NP_ranges Np) ((NP_pat Np) + (1:Int32)) (NP_patEnd Np) (NP_broken Np)) Ni No Nx Nf Na Nh Nq Nj M0 tc 48 hq10) hP (hDD _ _ _ _ _ _ _ _ _ _ _ _) hS hl.1 rfl mw_0 k_9_98 k_9_100 k_s_96 k_1_12 k_9_101 hv_MM_set rfl rfl ⟨(Nat.le_of_ble_eq_true rfl), (Nat.le_of_ble_eq_true rfl)⟩ rfl (Nat.le_of_ble_eq_true rfl) ⟨Nat.zero_le _, Nat.zero_le _⟩ rfl d_MM_escape_394 (fun H locs hP hS => ?_)
    refine lv_iconst (v := (-1:Int32)) hx hb d_MM_escape_397 (by decide) ?_
    cases h
    exact o_ri (v := (-1:Int32)) C hP hS d_MM_escape_398
  replace h := o_ff c87 h
  by_cases c88 : q1 = (120:Int32)
  · replace h := o_tt c88 h
    refine lv_tableIn (off := 419) (tgt := 436) hx hb d_MM_escape_17 (by rw [c88]; decide) (by rw [c88]; decide) (by rw [c88]; rfl) (by decide) ?_
    refine lv_aload_n hx hb d_MM_escape_436 rfl (lv_at hl 1 rfl) ?_
    refine lv_iconst (v := (2:Int32)) hx hb d_MM_escape_437 (by decide) ?_
    obtain ⟨q11, hq11, h⟩ := o_bd_some h
    refine o_V (st1 := [.int q11.1]) (w1 := (m_cw ad ca ky ty 48 Ni q11.2 No Nx Nf Na Nh Nq Nj M0 tc)) hE.1 C (e_MM_hex_b hE hKy l n (2:Int32) tc (NP_mk (NP_nodeKind Np) (NP_nodeA Np) (NP_nodeB Np) (NP_nodeC Np) (NP_nodeNext Np) (NP_low Np) (NP_high Np) (NP_setFrom Np) (NP_setTo Np) (NP_setNot Np) (NP_nodes Np) (NP_sets Np) (NP_ranges Np) ((NP_pat Np) + (1:Int32)) (NP_patEnd Np) (NP_broken Np)) Ni No Nx Nf Na Nh Nq Nj M0 hq11) hP (hDD _ _ _ _ _ _ _ _ _ _ _ _) hS hl.1 rfl mw_0 k_9_108 k_9_110 k_s_98 k_1_12 k_9_111 hv_MM_hex rfl rfl ⟨(Nat.le_of_ble_eq_true rfl), (Nat.le_of_ble_eq_true rfl)⟩ rfl (Nat.le_of_ble_eq_true rfl) ⟨Nat.zero_le _, Nat.zero_le _⟩ rfl d_MM_escape_438 (fun H locs hP hS => ?_)
    cases h
    exact o_ri C hP hS d_MM_escape_441
  replace h := o_ff c88 h
  by_cases c89 : q1 = (121:Int32)
  · replace h := o_tt c89 h
    refine lv_tableIn (off := 458) (tgt := 475) hx hb d_MM_escape_17 (by rw [c89]; decide) (by rw [c89]; decide) (by rw [c89]; rfl) (by decide) ?_
    refine lv_aload_n hx hb d_MM_escape_475 rfl (lv_at hl 1 rfl) ?_
    refine lv_iconst (v := (1:Int32)) hx hb d_MM_escape_476 (by decide) ?_
    refine o_put (v := .int (1:Int32)) (ty := .boolean) (w1 := (m_cw ad ca ky ty 48 Ni (NP_mk (NP_nodeKind Np) (NP_nodeA Np) (NP_nodeB Np) (NP_nodeC Np) (NP_nodeNext Np) (NP_low Np) (NP_high Np) (NP_setFrom Np) (NP_setTo Np) (NP_setNot Np) (NP_nodes Np) (NP_sets Np) (NP_ranges Np) ((NP_pat Np) + (1:Int32)) (NP_patEnd Np) (1:Int32)) No Nx Nf Na Nh Nq Nj M0 tc)) C in_MM t_MM t_MM_ok n_MM hP (hDD _ _ _ _ _ _ _ _ _ _ _ _) hS 0 mw_0 rfl 32 (by decide) k_8_22 rfl rfl (by decide +kernel) rfl rfl (Nat.le_of_ble_eq_true rfl) rfl d_MM_escape_477 (fun H locs hP hS => ?_)
    refine lv_iconst (v := (0:Int32)) hx hb d_MM_escape_480 (by decide) ?_
    cases h
    exact o_ri (v := (0:Int32)) C hP hS d_MM_escape_481
  replace h := o_ff c89 h
  by_cases c90 : q1 = (122:Int32)
  · replace h := o_tt c90 h
    refine lv_tableIn (off := 458) (tgt := 475) hx hb d_MM_escape_17 (by rw [c90]; decide) (by rw [c90]; decide) (by rw [c90]; rfl) (by decide) ?_
    refine lv_aload_n hx hb d_MM_escape_475 rfl (lv_at hl 1 rfl) ?_
    refine lv_iconst (v := (1:Int32)) hx hb d_MM_escape_476 (by decide) ?_
    refine o_put (v := .int (1:Int32)) (ty := .boolean) (w1 := (m_cw ad ca ky ty 48 Ni (NP_mk (NP_nodeKind Np) (NP_nodeA Np) (NP_nodeB Np) (NP_nodeC Np) (NP_nodeNext Np) (NP_low Np) (NP_high Np) (NP_setFrom Np) (NP_setTo Np) (NP_setNot Np) (NP_nodes Np) (NP_sets Np) (NP_ranges Np) ((NP_pat Np) + (1:Int32)) (NP_patEnd Np) (1:Int32)) No Nx Nf Na Nh Nq Nj M0 tc)) C in_MM t_MM t_MM_ok n_MM hP (hDD _ _ _ _ _ _ _ _ _ _ _ _) hS 0 mw_0 rfl 32 (by decide) k_8_22 rfl rfl (by decide +kernel) rfl rfl (Nat.le_of_ble_eq_true rfl) rfl d_MM_escape_477 (fun H locs hP hS => ?_)
    refine lv_iconst (v := (0:Int32)) hx hb d_MM_escape_480 (by decide) ?_
    cases h
    exact o_ri (v := (0:Int32)) C hP hS d_MM_escape_481
  replace h := o_ff c90 h
  by_cases c91 : q1 = (123:Int32)
  · replace h := o_tt c91 h
    refine lv_tableIn (off := 456) (tgt := 473) hx hb d_MM_escape_17 (by rw [c91]; decide) (by rw [c91]; decide) (by rw [c91]; rfl) (by decide) ?_
    refine lv_iload_n hx hb d_MM_escape_473 rfl (lv_at hl 0 rfl) ?_
    cases h
    exact o_ri C hP hS d_MM_escape_474
  replace h := o_ff c91 h
  by_cases c92 : q1 = (124:Int32)
  · replace h := o_tt c92 h
    refine lv_tableIn (off := 456) (tgt := 473) hx hb d_MM_escape_17 (by rw [c92]; decide) (by rw [c92]; decide) (by rw [c92]; rfl) (by decide) ?_
    refine lv_iload_n hx hb d_MM_escape_473 rfl (lv_at hl 0 rfl) ?_
    cases h
    exact o_ri C hP hS d_MM_escape_474
  replace h := o_ff c92 h
  by_cases c93 : q1 = (125:Int32)
  · replace h := o_tt c93 h
    refine lv_tableIn (off := 456) (tgt := 473) hx hb d_MM_escape_17 (by rw [c93]; decide) (by rw [c93]; decide) (by rw [c93]; rfl) (by decide) ?_
    refine lv_iload_n hx hb d_MM_escape_473 rfl (lv_at hl 0 rfl) ?_
    cases h
    exact o_ri C hP hS d_MM_escape_474
  replace h := o_ff c93 h
  refine lv_tableOut (tgt := 475) hx hb d_MM_escape_17 (by have ec1 := o_ne_i (n := 36) (by decide) c1; have ec2 := o_ne_i (n := 37) (by decide) c2; have ec3 := o_ne_i (n := 38) (by decide) c3; have ec4 := o_ne_i (n := 39) (by decide) c4; have ec5 := o_ne_i (n := 40) (by decide) c5; have ec6 := o_ne_i (n := 41) (by decide) c6; have ec7 := o_ne_i (n := 42) (by decide) c7; have ec8 := o_ne_i (n := 43) (by decide) c8; have ec9 := o_ne_i (n := 44) (by decide) c9; have ec10 := o_ne_i (n := 45) (by decide) c10; have ec12 := o_ne_i (n := 46) (by decide) c12; have ec13 := o_ne_i (n := 47) (by decide) c13; have ec14 := o_ne_i (n := 48) (by decide) c14; have ec16 := o_ne_i (n := 49) (by decide) c16; have ec17 := o_ne_i (n := 50) (by decide) c17; have ec18 := o_ne_i (n := 51) (by decide) c18; have ec19 := o_ne_i (n := 52) (by decide) c19; have ec20 := o_ne_i (n := 53) (by decide) c20; have ec21 := o_ne_i (n := 54) (by decide) c21; have ec22 := o_ne_i (n := 55) (by decide) c22; have ec23 := o_ne_i (n := 56) (by decide) c23; have ec24 := o_ne_i (n := 57) (by decide) c24; have ec25 := o_ne_i (n := 58) (by decide) c25; have ec26 := o_ne_i (n := 59) (by decide) c26; have ec27 := o_ne_i (n := 60) (by decide) c27; have ec28 := o_ne_i (n := 61) (by decide) c28; have ec29 := o_ne_i (n := 62) (by decide) c29; have ec30 := o_ne_i (n := 63) (by decide) c30; have ec31 := o_ne_i (n := 64) (by decide) c31; have ec32 := o_ne_i (n := 65) (by decide) c32; have ec33 := o_ne_i (n := 66) (by decide) c33; have ec34 := o_ne_i (n := 67) (by decide) c34; have ec35 := o_ne_i (n := 68) (by decide) c35; have ec36 := o_ne_i (n := 69) (by decide) c36; have ec37 := o_ne_i (n := 70) (by decide) c37; have ec38 := o_ne_i (n := 71) (by decide) c38; have ec39 := o_ne_i (n := 72) (by decide) c39; have ec40 := o_ne_i (n := 73) (by decide) c40; have ec41 := o_ne_i (n := 74) (by decide) c41; have ec42 := o_ne_i (n := 75) (by decide) c42; have ec43 := o_ne_i (n := 76) (by decide) c43; have ec44 := o_ne_i (n := 77) (by decide) c44; have ec45 := o_ne_i (n := 78) (by decide) c45; have ec46 := o_ne_i (n := 79) (by decide) c46; have ec47 := o_ne_i (n := 80) (by decide) c47; have ec48 := o_ne_i (n := 81) (by decide) c48; have ec49 := o_ne_i (n := 82) (by decide) c49; have ec50 := o_ne_i (n := 83) (by decide) c50; have ec51 := o_ne_i (n := 84) (by decide) c51; have ec52 := o_ne_i (n := 85) (by decide) c52; have ec53 := o_ne_i (n := 86) (by decide) c53; have ec54 := o_ne_i (n := 87) (by decide) c54; have ec55 := o_ne_i (n := 88) (by decide) c55; have ec56 := o_ne_i (n := 89) (by decide) c56; have ec57 := o_ne_i (n := 90) (by decide) c57; have ec58 := o_ne_i (n := 91) (by decide) c58; have ec59 := o_ne_i (n := 92) (by decide) c59; have ec60 := o_ne_i (n := 93) (by decide) c60; have ec61 := o_ne_i (n := 94) (by decide) c61; have ec62 := o_ne_i (n := 95) (by decide) c62; have ec63 := o_ne_i (n := 96) (by decide) c63; have ec64 := o_ne_i (n := 97) (by decide) c64; have ec65 := o_ne_i (n := 98) (by decide) c65; have ec67 := o_ne_i (n := 99) (by decide) c67; have ec68 := o_ne_i (n := 100) (by decide) c68; have ec69 := o_ne_i (n := 101) (by decide) c69; have ec70 := o_ne_i (n := 102) (by decide) c70; have ec71 := o_ne_i (n := 103) (by decide) c71; have ec72 := o_ne_i (n := 104) (by decide) c72; have ec73 := o_ne_i (n := 105) (by decide) c73; have ec74 := o_ne_i (n := 106) (by decide) c74; have ec75 := o_ne_i (n := 107) (by decide) c75; have ec76 := o_ne_i (n := 108) (by decide) c76; have ec77 := o_ne_i (n := 109) (by decide) c77; have ec78 := o_ne_i (n := 110) (by decide) c78; have ec79 := o_ne_i (n := 111) (by decide) c79; have ec80 := o_ne_i (n := 112) (by decide) c80; have ec81 := o_ne_i (n := 113) (by decide) c81; have ec82 := o_ne_i (n := 114) (by decide) c82; have ec83 := o_ne_i (n := 115) (by decide) c83; have ec84 := o_ne_i (n := 116) (by decide) c84; have ec85 := o_ne_i (n := 117) (by decide) c85; have ec86 := o_ne_i (n := 118) (by decide) c86; have ec87 := o_ne_i (n := 119) (by decide) c87; have ec88 := o_ne_i (n := 120) (by decide) c88; have ec89 := o_ne_i (n := 121) (by decide) c89; have ec90 := o_ne_i (n := 122) (by decide) c90; have ec91 := o_ne_i (n := 123) (by decide) c91; have ec92 := o_ne_i (n := 124) (by decide) c92; have ec93 := o_ne_i (n := 125) (by decide) c93; omega) (by decide) ?_
  refine lv_aload_n hx hb d_MM_escape_475 rfl (lv_at hl 1 rfl) ?_
  refine lv_iconst (v := (1:Int32)) hx hb d_MM_escape_476 (by decide) ?_
  refine o_put (v := .int (1:Int32)) (ty := .boolean) (w1 := (m_cw ad ca ky ty 48 Ni (NP_mk (NP_nodeKind Np) (NP_nodeA Np) (NP_nodeB Np) (NP_nodeC Np) (NP_nodeNext Np) (NP_low Np) (NP_high Np) (NP_setFrom Np) (NP_setTo Np) (NP_setNot Np) (NP_nodes Np) (NP_sets Np) (NP_ranges Np) ((NP_pat Np) + (1:Int32)) (NP_patEnd Np) (1:Int32)) No Nx Nf Na Nh Nq Nj M0 tc)) C in_MM t_MM t_MM_ok n_MM hP (hDD _ _ _ _ _ _ _ _ _ _ _ _) hS 0 mw_0 rfl 32 (by decide) k_8_22 rfl rfl (by decide +kernel) rfl rfl (Nat.le_of_ble_eq_true rfl) rfl d_MM_escape_477 (fun H locs hP hS => ?_)
  refine lv_iconst (v := (0:Int32)) hx hb d_MM_escape_480 (by decide) ?_
  cases h
  exact o_ri (v := (0:Int32)) C hP hS d_MM_escape_481
set_option maxHeartbeats 4000000 in
set_option maxRecDepth 100000 in
theorem e_MM_item_a {E : (Nat → Prop) → State → Heap → Prop} {D : va_G} {ad kd sd vd xd : Nat → Nat} {ca : Nat → ClassId} {ky ty : Nat → Option Nat} (hE : o_EK E kd sd vd xd) (hKy : m_KY ky ty sd) (l : Launch) (n : Nat)  (tc : SMT) (Np : SNP) (Ni : SNI) (No : SNO) (Nx : SNX) (Nf : SNF) (Na : SNA) (Nh : SNH) (Nq : SNQ) (Nj : SNJ) (M1 : SMT) {r : Int32 × SNP} (h : m_MM_item n tc Np = some r) : o_Cn E l D m_cls (m_tys ca) y_MM_item cc_MM_item rm_MM_item [.ref (ad 0)] (m_cw ad ca ky ty 33 Ni Np No Nx Nf Na Nh Nq Nj tc M1) (m_cw ad ca ky ty 33 Ni r.2 No Nx Nf Na Nh Nq Nj tc M1) (some (.int r.1)) := by
  refine o_Cn_of (by decide) (Nat.le_of_ble_eq_true rfl) ?_
  intro p e s m below meth c A ls C hD hP hS hl
  have hDD : ∀ (rt : Nat) (Ni : SNI) (Np : SNP) (No : SNO) (Nx : SNX) (Nf : SNF) (Na : SNA) (Nh : SNH) (Nq : SNQ) (Nj : SNJ) (M0 : SMT) (M1 : SMT), va_D A (m_cw ad ca ky ty rt Ni Np No Nx Nf Na Nh Nq Nj M0 M1) := fun _ _ _ _ _ _ _ _ _ _ _ _ => o_D_map hD rfl
  have hl : lv_has ls 2 [(0, .ref (ad 0))] := hl
  unfold m_MM_item at h
  have C0 := C
  obtain ⟨hx, hb, -, -, -, hown, hts, hK, -, -⟩ := C0
  refine lv_aload_n hx hb d_MM_item_0 rfl (lv_at hl 0 rfl) ?_
  refine lv_iconst (v := (0:Int32)) hx hb d_MM_item_1 (by decide) ?_
  obtain ⟨q1, hq1, h⟩ := o_bd_some h
  refine o_V (st1 := [.int q1]) (w1 := (m_cw ad ca ky ty 33 Ni Np No Nx Nf Na Nh Nq Nj tc M1)) hE.1 C (e_MM_p_a hE hKy l (0:Int32) tc Np Ni No Nx Nf Na Nh Nq Nj M1 hq1) hP (hDD _ _ _ _ _ _ _ _ _ _ _ _) hS hl.1 rfl mw_0 k_9_70 k_9_72 k_s_89 k_1_12 k_9_73 hv_MM_p rfl rfl ⟨(Nat.le_of_ble_eq_true rfl), (Nat.le_of_ble_eq_true rfl)⟩ rfl (Nat.le_of_ble_eq_true rfl) ⟨Nat.zero_le _, Nat.zero_le _⟩ rfl d_MM_item_2 (fun H locs hP hS => ?_)
  refine lv_istore_n (lv' := [(1, .int q1), (0, .ref (ad 0))]) hx hb d_MM_item_5 rfl hl (by decide) rfl (fun ls hl => ?_)
  refine lv_iload_n hx hb d_MM_item_6 rfl (lv_at hl 0 rfl) ?_
  refine lv_bipush (v := (92:Int32)) hx hb d_MM_item_7 (by decide) ?_
  refine lv_icmp_eq (tgt := 24) hx hb d_MM_item_9 (by decide) (fun c1 => ?_) (fun c1 => ?_)
  · replace h := o_tt c1 h
    refine lv_aload_n hx hb d_MM_item_24 rfl (lv_at hl 1 rfl) ?_
    refine lv_dup hx hb d_MM_item_25 rfl ?_
    refine o_get (v := .int (NP_pat Np)) C in_MM hP 0 mw_0 rfl 27 (by decide) k_8_17 rfl rfl d_MM_item_26 ?_
    refine lv_iconst (v := (1:Int32)) hx hb d_MM_item_29 (by decide) ?_
    refine lv_iadd hx hb d_MM_item_30 ?_
    refine o_put (v := .int ((NP_pat Np) + (1:Int32))) (ty := .int) (w1 := (m_cw ad ca ky ty 33 Ni (NP_mk (NP_nodeKind Np) (NP_nodeA Np) (NP_nodeB Np) (NP_nodeC Np) (NP_nodeNext Np) (NP_low Np) (NP_high Np) (NP_setFrom Np) (NP_setTo Np) (NP_setNot Np) (NP_nodes Np) (NP_sets Np) (NP_ranges Np) ((NP_pat Np) + (1:Int32)) (NP_patEnd Np) (NP_broken Np)) No Nx Nf Na Nh Nq Nj tc M1)) C in_MM t_MM t_MM_ok n_MM hP (hDD _ _ _ _ _ _ _ _ _ _ _ _) hS 0 mw_0 rfl 27 (by decide) k_8_17 rfl rfl (by decide +kernel) rfl rfl (Nat.le_of_ble_eq_true rfl) rfl d_MM_item_31 (fun H locs hP hS => ?_)
    refine lv_aload_n hx hb d_MM_item_34 rfl (lv_at hl 1 rfl) ?_
    refine lv_iconst (v := (1:Int32)) hx hb d_MM_item_35 (by decide) ?_
    obtain ⟨q2, hq2, h⟩ := o_bd_some h
    refine o_V (st1 := [.int q2.1]) (w1 := (m_cw ad ca ky ty 33 Ni q2.2 No Nx Nf Na Nh Nq Nj tc M1)) hE.1 C (e_MM_escape_a hE hKy l n (1:Int32) tc (NP_mk (NP_nodeKind Np) (NP_nodeA Np) (NP_nodeB Np) (NP_nodeC Np) (NP_nodeNext Np) (NP_low Np) (NP_high Np) (NP_setFrom Np) (NP_setTo Np) (NP_setNot Np) (NP_nodes Np) (NP_sets Np) (NP_ranges Np) ((NP_pat Np) + (1:Int32)) (NP_patEnd Np) (NP_broken Np)) Ni No Nx Nf Na Nh Nq Nj M1 hq2) hP (hDD _ _ _ _ _ _ _ _ _ _ _ _) hS hl.1 rfl mw_0 k_9_94 k_9_96 k_s_95 k_1_12 k_9_97 hv_MM_escape rfl rfl ⟨(Nat.le_of_ble_eq_true rfl), (Nat.le_of_ble_eq_true rfl)⟩ rfl (Nat.le_of_ble_eq_true rfl) ⟨Nat.zero_le _, Nat.zero_le _⟩ rfl d_MM_item_36 (fun H locs hP hS => ?_)
    cases h
    exact o_ri C hP hS d_MM_item_39
  · replace h := o_ff c1 h
    refine lv_aload_n hx hb d_MM_item_12 rfl (lv_at hl 1 rfl) ?_
    refine lv_dup hx hb d_MM_item_13 rfl ?_
    refine o_get (v := .int (NP_pat Np)) C in_MM hP 0 mw_0 rfl 27 (by decide) k_8_17 rfl rfl d_MM_item_14 ?_
    refine lv_iconst (v := (1:Int32)) hx hb d_MM_item_17 (by decide) ?_
    refine lv_iadd hx hb d_MM_item_18 ?_
    refine o_put (v := .int ((NP_pat Np) + (1:Int32))) (ty := .int) (w1 := (m_cw ad ca ky ty 33 Ni (NP_mk (NP_nodeKind Np) (NP_nodeA Np) (NP_nodeB Np) (NP_nodeC Np) (NP_nodeNext Np) (NP_low Np) (NP_high Np) (NP_setFrom Np) (NP_setTo Np) (NP_setNot Np) (NP_nodes Np) (NP_sets Np) (NP_ranges Np) ((NP_pat Np) + (1:Int32)) (NP_patEnd Np) (NP_broken Np)) No Nx Nf Na Nh Nq Nj tc M1)) C in_MM t_MM t_MM_ok n_MM hP (hDD _ _ _ _ _ _ _ _ _ _ _ _) hS 0 mw_0 rfl 27 (by decide) k_8_17 rfl rfl (by decide +kernel) rfl rfl (Nat.le_of_ble_eq_true rfl) rfl d_MM_item_19 (fun H locs hP hS => ?_)
    refine lv_iload_n hx hb d_MM_item_22 rfl (lv_at hl 0 rfl) ?_
    cases h
    exact o_ri C hP hS d_MM_item_23
set_option maxHeartbeats 4000000 in
set_option maxRecDepth 100000 in
theorem e_MM_item_b {E : (Nat → Prop) → State → Heap → Prop} {D : va_G} {ad kd sd vd xd : Nat → Nat} {ca : Nat → ClassId} {ky ty : Nat → Option Nat} (hE : o_EK E kd sd vd xd) (hKy : m_KY ky ty sd) (l : Launch) (n : Nat)  (tc : SMT) (Np : SNP) (Ni : SNI) (No : SNO) (Nx : SNX) (Nf : SNF) (Na : SNA) (Nh : SNH) (Nq : SNQ) (Nj : SNJ) (M0 : SMT) {r : Int32 × SNP} (h : m_MM_item n tc Np = some r) : o_Cn E l D m_cls (m_tys ca) y_MM_item cc_MM_item rm_MM_item [.ref (ad 0)] (m_cw ad ca ky ty 48 Ni Np No Nx Nf Na Nh Nq Nj M0 tc) (m_cw ad ca ky ty 48 Ni r.2 No Nx Nf Na Nh Nq Nj M0 tc) (some (.int r.1)) := by
  refine o_Cn_of (by decide) (Nat.le_of_ble_eq_true rfl) ?_
  intro p e s m below meth c A ls C hD hP hS hl
  have hDD : ∀ (rt : Nat) (Ni : SNI) (Np : SNP) (No : SNO) (Nx : SNX) (Nf : SNF) (Na : SNA) (Nh : SNH) (Nq : SNQ) (Nj : SNJ) (M0 : SMT) (M1 : SMT), va_D A (m_cw ad ca ky ty rt Ni Np No Nx Nf Na Nh Nq Nj M0 M1) := fun _ _ _ _ _ _ _ _ _ _ _ _ => o_D_map hD rfl
  have hl : lv_has ls 2 [(0, .ref (ad 0))] := hl
  unfold m_MM_item at h
  have C0 := C
  obtain ⟨hx, hb, -, -, -, hown, hts, hK, -, -⟩ := C0
  refine lv_aload_n hx hb d_MM_item_0 rfl (lv_at hl 0 rfl) ?_
  refine lv_iconst (v := (0:Int32)) hx hb d_MM_item_1 (by decide) ?_
  obtain ⟨q1, hq1, h⟩ := o_bd_some h
  refine o_V (st1 := [.int q1]) (w1 := (m_cw ad ca ky ty 48 Ni Np No Nx Nf Na Nh Nq Nj M0 tc)) hE.1 C (e_MM_p_b hE hKy l (0:Int32) tc Np Ni No Nx Nf Na Nh Nq Nj M0 hq1) hP (hDD _ _ _ _ _ _ _ _ _ _ _ _) hS hl.1 rfl mw_0 k_9_70 k_9_72 k_s_89 k_1_12 k_9_73 hv_MM_p rfl rfl ⟨(Nat.le_of_ble_eq_true rfl), (Nat.le_of_ble_eq_true rfl)⟩ rfl (Nat.le_of_ble_eq_true rfl) ⟨Nat.zero_le _, Nat.zero_le _⟩ rfl d_MM_item_2 (fun H locs hP hS => ?_)
  refine lv_istore_n (lv' := [(1, .int q1), (0, .ref (ad 0))]) hx hb d_MM_item_5 rfl hl (by decide) rfl (fun ls hl => ?_)
  refine lv_iload_n hx hb d_MM_item_6 rfl (lv_at hl 0 rfl) ?_
  refine lv_bipush (v := (92:Int32)) hx hb d_MM_item_7 (by decide) ?_
  refine lv_icmp_eq (tgt := 24) hx hb d_MM_item_9 (by decide) (fun c1 => ?_) (fun c1 => ?_)
  · replace h := o_tt c1 h
    refine lv_aload_n hx hb d_MM_item_24 rfl (lv_at hl 1 rfl) ?_
    refine lv_dup hx hb d_MM_item_25 rfl ?_
    refine o_get (v := .int (NP_pat Np)) C in_MM hP 0 mw_0 rfl 27 (by decide) k_8_17 rfl rfl d_MM_item_26 ?_
    refine lv_iconst (v := (1:Int32)) hx hb d_MM_item_29 (by decide) ?_
    refine lv_iadd hx hb d_MM_item_30 ?_
    refine o_put (v := .int ((NP_pat Np) + (1:Int32))) (ty := .int) (w1 := (m_cw ad ca ky ty 48 Ni (NP_mk (NP_nodeKind Np) (NP_nodeA Np) (NP_nodeB Np) (NP_nodeC Np) (NP_nodeNext Np) (NP_low Np) (NP_high Np) (NP_setFrom Np) (NP_setTo Np) (NP_setNot Np) (NP_nodes Np) (NP_sets Np) (NP_ranges Np) ((NP_pat Np) + (1:Int32)) (NP_patEnd Np) (NP_broken Np)) No Nx Nf Na Nh Nq Nj M0 tc)) C in_MM t_MM t_MM_ok n_MM hP (hDD _ _ _ _ _ _ _ _ _ _ _ _) hS 0 mw_0 rfl 27 (by decide) k_8_17 rfl rfl (by decide +kernel) rfl rfl (Nat.le_of_ble_eq_true rfl) rfl d_MM_item_31 (fun H locs hP hS => ?_)
    refine lv_aload_n hx hb d_MM_item_34 rfl (lv_at hl 1 rfl) ?_
    refine lv_iconst (v := (1:Int32)) hx hb d_MM_item_35 (by decide) ?_
    obtain ⟨q2, hq2, h⟩ := o_bd_some h
    refine o_V (st1 := [.int q2.1]) (w1 := (m_cw ad ca ky ty 48 Ni q2.2 No Nx Nf Na Nh Nq Nj M0 tc)) hE.1 C (e_MM_escape_b hE hKy l n (1:Int32) tc (NP_mk (NP_nodeKind Np) (NP_nodeA Np) (NP_nodeB Np) (NP_nodeC Np) (NP_nodeNext Np) (NP_low Np) (NP_high Np) (NP_setFrom Np) (NP_setTo Np) (NP_setNot Np) (NP_nodes Np) (NP_sets Np) (NP_ranges Np) ((NP_pat Np) + (1:Int32)) (NP_patEnd Np) (NP_broken Np)) Ni No Nx Nf Na Nh Nq Nj M0 hq2) hP (hDD _ _ _ _ _ _ _ _ _ _ _ _) hS hl.1 rfl mw_0 k_9_94 k_9_96 k_s_95 k_1_12 k_9_97 hv_MM_escape rfl rfl ⟨(Nat.le_of_ble_eq_true rfl), (Nat.le_of_ble_eq_true rfl)⟩ rfl (Nat.le_of_ble_eq_true rfl) ⟨Nat.zero_le _, Nat.zero_le _⟩ rfl d_MM_item_36 (fun H locs hP hS => ?_)
    cases h
    exact o_ri C hP hS d_MM_item_39
  · replace h := o_ff c1 h
    refine lv_aload_n hx hb d_MM_item_12 rfl (lv_at hl 1 rfl) ?_
    refine lv_dup hx hb d_MM_item_13 rfl ?_
    refine o_get (v := .int (NP_pat Np)) C in_MM hP 0 mw_0 rfl 27 (by decide) k_8_17 rfl rfl d_MM_item_14 ?_
    refine lv_iconst (v := (1:Int32)) hx hb d_MM_item_17 (by decide) ?_
    refine lv_iadd hx hb d_MM_item_18 ?_
    refine o_put (v := .int ((NP_pat Np) + (1:Int32))) (ty := .int) (w1 := (m_cw ad ca ky ty 48 Ni (NP_mk (NP_nodeKind Np) (NP_nodeA Np) (NP_nodeB Np) (NP_nodeC Np) (NP_nodeNext Np) (NP_low Np) (NP_high Np) (NP_setFrom Np) (NP_setTo Np) (NP_setNot Np) (NP_nodes Np) (NP_sets Np) (NP_ranges Np) ((NP_pat Np) + (1:Int32)) (NP_patEnd Np) (NP_broken Np)) No Nx Nf Na Nh Nq Nj M0 tc)) C in_MM t_MM t_MM_ok n_MM hP (hDD _ _ _ _ _ _ _ _ _ _ _ _) hS 0 mw_0 rfl 27 (by decide) k_8_17 rfl rfl (by decide +kernel) rfl rfl (Nat.le_of_ble_eq_true rfl) rfl d_MM_item_19 (fun H locs hP hS => ?_)
    refine lv_iload_n hx hb d_MM_item_22 rfl (lv_at hl 0 rfl) ?_
    cases h
    exact o_ri C hP hS d_MM_item_23
set_option maxHeartbeats 4000000 in
set_option maxRecDepth 100000 in
theorem e_MM_close {E : (Nat → Prop) → State → Heap → Prop} {D : va_G} {ad kd sd vd xd : Nat → Nat} {ca : Nat → ClassId} {ky ty : Nat → Option Nat} (hE : o_EK E kd sd vd xd) (hKy : m_KY ky ty sd) (l : Launch) (x1 : Int32) (x2 : Int32) (Np : SNP) (Ni : SNI) (No : SNO) (Nx : SNX) (Nf : SNF) (Na : SNA) (Nh : SNH) (Nq : SNQ) (Nj : SNJ) (M0 : SMT) (M1 : SMT) (rt : Nat) {r : Int32 × SNP} (h : m_MM_close x1 x2 Np = some r) : o_Cn E l D m_cls (m_tys ca) y_MM_close cc_MM_close rm_MM_close [.ref (ad 0), .int x1, .int x2] (m_cw ad ca ky ty rt Ni Np No Nx Nf Na Nh Nq Nj M0 M1) (m_cw ad ca ky ty rt Ni r.2 No Nx Nf Na Nh Nq Nj M0 M1) (some (.int r.1)) := by
  refine o_Cn_of (by decide) (Nat.le_of_ble_eq_true rfl) ?_
  intro p e s m below meth c A ls C hD hP hS hl
  have hDD : ∀ (rt : Nat) (Ni : SNI) (Np : SNP) (No : SNO) (Nx : SNX) (Nf : SNF) (Na : SNA) (Nh : SNH) (Nq : SNQ) (Nj : SNJ) (M0 : SMT) (M1 : SMT), va_D A (m_cw ad ca ky ty rt Ni Np No Nx Nf Na Nh Nq Nj M0 M1) := fun _ _ _ _ _ _ _ _ _ _ _ _ => o_D_map hD rfl
  have hl : lv_has ls 3 [(0, .ref (ad 0)), (1, .int x1), (2, .int x2)] := hl
  unfold m_MM_close at h
  have C0 := C
  obtain ⟨hx, hb, -, -, -, hown, hts, hK, -, -⟩ := C0
  refine lv_aload_n hx hb d_MM_close_0 rfl (lv_at hl 0 rfl) ?_
  refine o_get (v := .ref (ad 9)) C in_MM hP 0 mw_0 rfl 13 (by decide) k_8_3 rfl rfl d_MM_close_1 ?_
  refine lv_aload_n hx hb d_MM_close_4 rfl (lv_at hl 0 rfl) ?_
  refine o_get (v := .int (NP_sets Np)) C in_MM hP 0 mw_0 rfl 24 (by decide) k_8_14 rfl rfl d_MM_close_5 ?_
  refine lv_iload_n hx hb d_MM_close_8 rfl (lv_at hl 1 rfl) ?_
  obtain ⟨g1, h⟩ := o_gd_some h
  refine o_iast (f := (NP_setFrom Np)) (w1 := (m_cw ad ca ky ty rt Ni (NP_mk (NP_nodeKind Np) (NP_nodeA Np) (NP_nodeB Np) (NP_nodeC Np) (NP_nodeNext Np) (NP_low Np) (NP_high Np) (upd (NP_setFrom Np) (NP_sets Np).toNatClampNeg x1) (NP_setTo Np) (NP_setNot Np) (NP_nodes Np) (NP_sets Np) (NP_ranges Np) (NP_pat Np) (NP_patEnd Np) (NP_broken Np)) No Nx Nf Na Nh Nq Nj M0 M1)) C hP (hDD _ _ _ _ _ _ _ _ _ _ _ _) hS 9 8 mw_9 rfl g1 rfl d_MM_close_9 (fun H locs hP hS => ?_)
  refine lv_aload_n hx hb d_MM_close_10 rfl (lv_at hl 0 rfl) ?_
  refine o_get (v := .ref (ad 10)) C in_MM hP 0 mw_0 rfl 14 (by decide) k_8_4 rfl rfl d_MM_close_11 ?_
  refine lv_aload_n hx hb d_MM_close_14 rfl (lv_at hl 0 rfl) ?_
  refine o_get (v := .int (NP_sets Np)) C in_MM hP 0 mw_0 rfl 24 (by decide) k_8_14 rfl rfl d_MM_close_15 ?_
  refine lv_aload_n hx hb d_MM_close_18 rfl (lv_at hl 0 rfl) ?_
  refine o_get (v := .int (NP_ranges Np)) C in_MM hP 0 mw_0 rfl 25 (by decide) k_8_15 rfl rfl d_MM_close_19 ?_
  obtain ⟨g2, h⟩ := o_gd_some h
  refine o_iast (f := (NP_setTo Np)) (w1 := (m_cw ad ca ky ty rt Ni (NP_mk (NP_nodeKind Np) (NP_nodeA Np) (NP_nodeB Np) (NP_nodeC Np) (NP_nodeNext Np) (NP_low Np) (NP_high Np) (upd (NP_setFrom Np) (NP_sets Np).toNatClampNeg x1) (upd (NP_setTo Np) (NP_sets Np).toNatClampNeg (NP_ranges Np)) (NP_setNot Np) (NP_nodes Np) (NP_sets Np) (NP_ranges Np) (NP_pat Np) (NP_patEnd Np) (NP_broken Np)) No Nx Nf Na Nh Nq Nj M0 M1)) C hP (hDD _ _ _ _ _ _ _ _ _ _ _ _) hS 10 9 mw_10 rfl g2 rfl d_MM_close_22 (fun H locs hP hS => ?_)
  refine lv_aload_n hx hb d_MM_close_23 rfl (lv_at hl 0 rfl) ?_
  refine o_get (v := .ref (ad 11)) C in_MM hP 0 mw_0 rfl 15 (by decide) k_8_5 rfl rfl d_MM_close_24 ?_
  refine lv_aload_n hx hb d_MM_close_27 rfl (lv_at hl 0 rfl) ?_
  refine o_get (v := .int (NP_sets Np)) C in_MM hP 0 mw_0 rfl 24 (by decide) k_8_14 rfl rfl d_MM_close_28 ?_
  refine lv_iload_n hx hb d_MM_close_31 rfl (lv_at hl 2 rfl) ?_
  obtain ⟨g3, h⟩ := o_gd_some h
  refine o_zast (f := (NP_setNot Np)) (w1 := (m_cw ad ca ky ty rt Ni (NP_mk (NP_nodeKind Np) (NP_nodeA Np) (NP_nodeB Np) (NP_nodeC Np) (NP_nodeNext Np) (NP_low Np) (NP_high Np) (upd (NP_setFrom Np) (NP_sets Np).toNatClampNeg x1) (upd (NP_setTo Np) (NP_sets Np).toNatClampNeg (NP_ranges Np)) (upd (NP_setNot Np) (NP_sets Np).toNatClampNeg (vp_nar .boolean x2)) (NP_nodes Np) (NP_sets Np) (NP_ranges Np) (NP_pat Np) (NP_patEnd Np) (NP_broken Np)) No Nx Nf Na Nh Nq Nj M0 M1)) C hP (hDD _ _ _ _ _ _ _ _ _ _ _ _) hS 11 10 mw_11 rfl g3 rfl d_MM_close_32 (fun H locs hP hS => ?_)
  refine lv_aload_n hx hb d_MM_close_33 rfl (lv_at hl 0 rfl) ?_
  refine lv_iconst (v := (1:Int32)) hx hb d_MM_close_34 (by decide) ?_
  refine lv_aload_n hx hb d_MM_close_35 rfl (lv_at hl 0 rfl) ?_
  refine lv_dup hx hb d_MM_close_36 rfl ?_
  refine o_get (v := .int (NP_sets Np)) C in_MM hP 0 mw_0 rfl 24 (by decide) k_8_14 rfl rfl d_MM_close_37 ?_
  refine lv_dup_x1 hx hb d_MM_close_40 rfl rfl ?_
  refine lv_iconst (v := (1:Int32)) hx hb d_MM_close_41 (by decide) ?_
  refine lv_iadd hx hb d_MM_close_42 ?_
  refine o_put (v := .int ((NP_sets Np) + (1:Int32))) (ty := .int) (w1 := (m_cw ad ca ky ty rt Ni (NP_mk (NP_nodeKind Np) (NP_nodeA Np) (NP_nodeB Np) (NP_nodeC Np) (NP_nodeNext Np) (NP_low Np) (NP_high Np) (upd (NP_setFrom Np) (NP_sets Np).toNatClampNeg x1) (upd (NP_setTo Np) (NP_sets Np).toNatClampNeg (NP_ranges Np)) (upd (NP_setNot Np) (NP_sets Np).toNatClampNeg (vp_nar .boolean x2)) (NP_nodes Np) ((NP_sets Np) + (1:Int32)) (NP_ranges Np) (NP_pat Np) (NP_patEnd Np) (NP_broken Np)) No Nx Nf Na Nh Nq Nj M0 M1)) C in_MM t_MM t_MM_ok n_MM hP (hDD _ _ _ _ _ _ _ _ _ _ _ _) hS 0 mw_0 rfl 24 (by decide) k_8_14 rfl rfl (by decide +kernel) rfl rfl (Nat.le_of_ble_eq_true rfl) rfl d_MM_close_43 (fun H locs hP hS => ?_)
  obtain ⟨q1, hq1, h⟩ := o_bd_some h
  refine o_V (st1 := [.int q1.1]) (w1 := (m_cw ad ca ky ty rt Ni q1.2 No Nx Nf Na Nh Nq Nj M0 M1)) hE.1 C (e_MM_node hE hKy l (1:Int32) (NP_sets Np) (NP_mk (NP_nodeKind Np) (NP_nodeA Np) (NP_nodeB Np) (NP_nodeC Np) (NP_nodeNext Np) (NP_low Np) (NP_high Np) (upd (NP_setFrom Np) (NP_sets Np).toNatClampNeg x1) (upd (NP_setTo Np) (NP_sets Np).toNatClampNeg (NP_ranges Np)) (upd (NP_setNot Np) (NP_sets Np).toNatClampNeg (vp_nar .boolean x2)) (NP_nodes Np) ((NP_sets Np) + (1:Int32)) (NP_ranges Np) (NP_pat Np) (NP_patEnd Np) (NP_broken Np)) Ni No Nx Nf Na Nh Nq Nj M0 M1 rt hq1) hP (hDD _ _ _ _ _ _ _ _ _ _ _ _) hS hl.1 rfl mw_0 k_9_62 k_9_64 k_s_87 k_1_12 k_9_65 hv_MM_node rfl rfl ⟨(Nat.le_of_ble_eq_true rfl), (Nat.le_of_ble_eq_true rfl)⟩ rfl (Nat.le_of_ble_eq_true rfl) ⟨Nat.zero_le _, Nat.zero_le _⟩ rfl d_MM_close_46 (fun H locs hP hS => ?_)
  cases h
  exact o_ri C hP hS d_MM_close_49
set_option maxHeartbeats 4000000 in
set_option maxRecDepth 100000 in
theorem f_MM_choice_j123_a {E : (Nat → Prop) → State → Heap → Prop} {p : Program} {l : Launch} {e : Env} {s : State} {m : MethodId} {args : Array Value} {below : List Frame} {meth : Method} {c : Code} {D : va_G} {ad kd sd vd xd : Nat → Nat} {ca : Nat → ClassId} {A : Nat → Prop} {ky ty : Nat → Option Nat} {Q : State → Prop} (hE : o_EK E kd sd vd xd) (hKy : m_KY ky ty sd) (C : o_Cx E p s m args meth c D m_cls (m_tys ca) "SchemaJudgeModel" b_MM_choice (some .int) 5 cc_MM_choice A) (hDD : ∀ (rt : Nat) (Ni : SNI) (Np : SNP) (No : SNO) (Nx : SNX) (Nf : SNF) (Na : SNA) (Nh : SNH) (Nq : SNQ) (Nj : SNJ) (M0 : SMT) (M1 : SMT), va_D A (m_cw ad ca ky ty rt Ni Np No Nx Nf Na Nh Nq Nj M0 M1)) (n : Nat) (u45_x1 : Int32) (u45_x2 : Int32) (u45_tc : SMT) (u45_Ni : SNI) (u45_No : SNO) (u45_Nx : SNX) (u45_Nf : SNF) (u45_Na : SNA) (u45_Nh : SNH) (u45_Nq : SNQ) (u45_Nj : SNJ) (u45_M1 : SMT) (x3 : Int32) (Np : SNP) {q : Nat × SNP} (h : m_MM_choice_j123 n u45_x1 u45_x2 x3 u45_tc Np = some q) (h0 : q.1 = 0 → o_At p l e rm_MM_choice s m args below meth c Q m_cls D A 5 45 [] (m_cw ad ca ky ty 33 u45_Ni q.2 u45_No u45_Nx u45_Nf u45_Na u45_Nh u45_Nq u45_Nj u45_tc u45_M1) [(0, .ref (ad 0)), (1, .int u45_x1), (2, .int u45_x2)]) (h1 : q.1 ≠ 0 → (if q.1 = 1 then o_At p l e rm_MM_choice s m args below meth c Q m_cls D A 5 73 [] (m_cw ad ca ky ty 33 u45_Ni q.2 u45_No u45_Nx u45_Nf u45_Na u45_Nh u45_Nq u45_Nj u45_tc u45_M1) [(0, .ref (ad 0))] else if q.1 = 2 then o_At p l e rm_MM_choice s m args below meth c Q m_cls D A 5 90 [] (m_cw ad ca ky ty 33 u45_Ni q.2 u45_No u45_Nx u45_Nf u45_Na u45_Nh u45_Nq u45_Nj u45_tc u45_M1) [(0, .ref (ad 0))] else if q.1 = 3 then o_At p l e rm_MM_choice s m args below meth c Q m_cls D A 5 174 [] (m_cw ad ca ky ty 33 u45_Ni q.2 u45_No u45_Nx u45_Nf u45_Na u45_Nh u45_Nq u45_Nj u45_tc u45_M1) [(0, .ref (ad 0))] else o_At p l e rm_MM_choice s m args below meth c Q m_cls D A 5 189 [] (m_cw ad ca ky ty 33 u45_Ni q.2 u45_No u45_Nx u45_Nf u45_Na u45_Nh u45_Nq u45_Nj u45_tc u45_M1) [(0, .ref (ad 0)), (1, .int u45_x1), (2, .int u45_x2)])) : o_At p l e rm_MM_choice s m args below meth c Q m_cls D A 5 123 [] (m_cw ad ca ky ty 33 u45_Ni Np u45_No u45_Nx u45_Nf u45_Na u45_Nh u45_Nq u45_Nj u45_tc u45_M1) [(0, .ref (ad 0)), (1, .int u45_x1), (2, .int u45_x2), (3, .int x3)] := by
  unfold m_MM_choice_j123 at h
  intro H locs ls hP hS hl
  have C0 := C
  obtain ⟨hx, hb, -, -, -, hown, hts, hK, -, -⟩ := C0
  refine lv_iload_n hx hb d_MM_choice_123 rfl (lv_at hl 3 rfl) ?_
  refine lv_if_lt (tgt := 45) hx hb d_MM_choice_124 (by decide) (fun c8 => ?_) (fun c8 => ?_)
  · replace h := o_tt c8 h
    cases h
    exact h0 rfl _ _ _ hP hS (lv_sub hl [0, 1, 2] rfl)
  · replace h := o_ff c8 h
    refine lv_aload_n hx hb d_MM_choice_127 rfl (lv_at hl 0 rfl) ?_
    refine lv_iload_n hx hb d_MM_choice_128 rfl (lv_at hl 3 rfl) ?_
    refine lv_iload_n hx hb d_MM_choice_129 rfl (lv_at hl 3 rfl) ?_
    obtain ⟨q6, hq6, h⟩ := o_bd_some h
    refine o_V (st1 := []) (w1 := (m_cw ad ca ky ty 33 u45_Ni q6 u45_No u45_Nx u45_Nf u45_Na u45_Nh u45_Nq u45_Nj u45_tc u45_M1)) hE.1 C (e_MM_range hE hKy l x3 x3 Np u45_Ni u45_No u45_Nx u45_Nf u45_Na u45_Nh u45_Nq u45_Nj u45_tc u45_M1 33 hq6) hP (hDD _ _ _ _ _ _ _ _ _ _ _ _) hS hl.1 rfl mw_0 k_9_102 k_9_104 k_s_97 k_1_12 k_9_105 hv_MM_range rfl rfl ⟨(Nat.le_of_ble_eq_true rfl), (Nat.le_of_ble_eq_true rfl)⟩ rfl (Nat.le_of_ble_eq_true rfl) ⟨Nat.zero_le _, Nat.zero_le _⟩ rfl d_MM_choice_130 (fun H locs hP hS => ?_)
    refine lv_goto (tgt := 45) hx hb d_MM_choice_133 (by decide) ?_
    cases h
    exact h0 rfl _ _ _ hP hS (lv_sub hl [0, 1, 2] rfl)
set_option maxHeartbeats 4000000 in
set_option maxRecDepth 100000 in
theorem f_MM_choice_b45_a {E : (Nat → Prop) → State → Heap → Prop} {p : Program} {l : Launch} {e : Env} {s : State} {m : MethodId} {args : Array Value} {below : List Frame} {meth : Method} {c : Code} {D : va_G} {ad kd sd vd xd : Nat → Nat} {ca : Nat → ClassId} {A : Nat → Prop} {ky ty : Nat → Option Nat} {Q : State → Prop} (hE : o_EK E kd sd vd xd) (hKy : m_KY ky ty sd) (C : o_Cx E p s m args meth c D m_cls (m_tys ca) "SchemaJudgeModel" b_MM_choice (some .int) 5 cc_MM_choice A) (hDD : ∀ (rt : Nat) (Ni : SNI) (Np : SNP) (No : SNO) (Nx : SNX) (Nf : SNF) (Na : SNA) (Nh : SNH) (Nq : SNQ) (Nj : SNJ) (M0 : SMT) (M1 : SMT), va_D A (m_cw ad ca ky ty rt Ni Np No Nx Nf Na Nh Nq Nj M0 M1)) (n : Nat) (u45_x1 : Int32) (u45_x2 : Int32) (u45_tc : SMT) (u45_Ni : SNI) (u45_No : SNO) (u45_Nx : SNX) (u45_Nf : SNF) (u45_Na : SNA) (u45_Nh : SNH) (u45_Nq : SNQ) (u45_Nj : SNJ) (u45_M1 : SMT) (z : SNP) (q : Nat × SNP) (h : m_MM_choice_b45 n u45_x1 u45_x2 u45_tc z = some q) (h0 : q.1 = 0 → o_At p l e rm_MM_choice s m args below meth c Q m_cls D A 5 45 [] (m_cw ad ca ky ty 33 u45_Ni q.2 u45_No u45_Nx u45_Nf u45_Na u45_Nh u45_Nq u45_Nj u45_tc u45_M1) [(0, .ref (ad 0)), (1, .int u45_x1), (2, .int u45_x2)]) (h1 : q.1 ≠ 0 → (if q.1 = 1 then o_At p l e rm_MM_choice s m args below meth c Q m_cls D A 5 73 [] (m_cw ad ca ky ty 33 u45_Ni q.2 u45_No u45_Nx u45_Nf u45_Na u45_Nh u45_Nq u45_Nj u45_tc u45_M1) [(0, .ref (ad 0))] else if q.1 = 2 then o_At p l e rm_MM_choice s m args below meth c Q m_cls D A 5 90 [] (m_cw ad ca ky ty 33 u45_Ni q.2 u45_No u45_Nx u45_Nf u45_Na u45_Nh u45_Nq u45_Nj u45_tc u45_M1) [(0, .ref (ad 0))] else if q.1 = 3 then o_At p l e rm_MM_choice s m args below meth c Q m_cls D A 5 174 [] (m_cw ad ca ky ty 33 u45_Ni q.2 u45_No u45_Nx u45_Nf u45_Na u45_Nh u45_Nq u45_Nj u45_tc u45_M1) [(0, .ref (ad 0))] else o_At p l e rm_MM_choice s m args below meth c Q m_cls D A 5 189 [] (m_cw ad ca ky ty 33 u45_Ni q.2 u45_No u45_Nx u45_Nf u45_Na u45_Nh u45_Nq u45_Nj u45_tc u45_M1) [(0, .ref (ad 0)), (1, .int u45_x1), (2, .int u45_x2)])) : o_At p l e rm_MM_choice s m args below meth c Q m_cls D A 5 45 [] (m_cw ad ca ky ty 33 u45_Ni z u45_No u45_Nx u45_Nf u45_Na u45_Nh u45_Nq u45_Nj u45_tc u45_M1) [(0, .ref (ad 0)), (1, .int u45_x1), (2, .int u45_x2)] := by
  unfold m_MM_choice_b45 at h
  intro H locs ls hP hS hl
  have C0 := C
  obtain ⟨hx, hb, -, -, -, hown, hts, hK, -, -⟩ := C0
  refine lv_aload_n hx hb d_MM_choice_45 rfl (lv_at hl 0 rfl) ?_
  refine o_get (v := .int (NP_broken z)) C in_MM hP 0 mw_0 rfl 32 (by decide) k_8_22 rfl rfl d_MM_choice_46 ?_
  refine lv_if_ne (tgt := 189) hx hb d_MM_choice_49 (by decide) (fun c3 => ?_) (fun c3 => ?_)
  · replace h := o_ff c3 h
    cases h
    exact h1 (Nat.succ_ne_zero 3) _ _ _ hP hS (lv_sub hl [0, 1, 2] rfl)
  · replace h := o_tt c3 h
    refine lv_aload_n hx hb d_MM_choice_52 rfl (lv_at hl 0 rfl) ?_
    refine lv_iconst (v := (0:Int32)) hx hb d_MM_choice_53 (by decide) ?_
    obtain ⟨q3, hq3, h⟩ := o_bd_some h
    refine o_V (st1 := [.int q3]) (w1 := (m_cw ad ca ky ty 33 u45_Ni z u45_No u45_Nx u45_Nf u45_Na u45_Nh u45_Nq u45_Nj u45_tc u45_M1)) hE.1 C (e_MM_p_a hE hKy l (0:Int32) u45_tc z u45_Ni u45_No u45_Nx u45_Nf u45_Na u45_Nh u45_Nq u45_Nj u45_M1 hq3) hP (hDD _ _ _ _ _ _ _ _ _ _ _ _) hS hl.1 rfl mw_0 k_9_70 k_9_72 k_s_89 k_1_12 k_9_73 hv_MM_p rfl rfl ⟨(Nat.le_of_ble_eq_true rfl), (Nat.le_of_ble_eq_true rfl)⟩ rfl (Nat.le_of_ble_eq_true rfl) ⟨Nat.zero_le _, Nat.zero_le _⟩ rfl d_MM_choice_54 (fun H locs hP hS => ?_)
    refine lv_bipush (v := (93:Int32)) hx hb d_MM_choice_57 (by decide) ?_
    refine lv_icmp_eq (tgt := 189) hx hb d_MM_choice_59 (by decide) (fun c4 => ?_) (fun c4 => ?_)
    · replace h := o_tt c4 h
      cases h
      exact h1 (Nat.succ_ne_zero 3) _ _ _ hP hS (lv_sub hl [0, 1, 2] rfl)
    · replace h := o_ff c4 h
      refine lv_aload_n hx hb d_MM_choice_62 rfl (lv_at hl 0 rfl) ?_
      refine o_get (v := .int (NP_pat z)) C in_MM hP 0 mw_0 rfl 27 (by decide) k_8_17 rfl rfl d_MM_choice_63 ?_
      refine lv_aload_n hx hb d_MM_choice_66 rfl (lv_at hl 0 rfl) ?_
      refine o_get (v := .int (NP_patEnd z)) C in_MM hP 0 mw_0 rfl 28 (by decide) k_8_18 rfl rfl d_MM_choice_67 ?_
      refine lv_icmp_lt (tgt := 78) hx hb d_MM_choice_70 (by decide) (fun c5 => ?_) (fun c5 => ?_)
      · replace h := o_tt c5 h
        refine lv_aload_n hx hb d_MM_choice_78 rfl (lv_at hl 0 rfl) ?_
        obtain ⟨q4, hq4, h⟩ := o_bd_some h
        refine o_V (st1 := [.int q4.1]) (w1 := (m_cw ad ca ky ty 33 u45_Ni q4.2 u45_No u45_Nx u45_Nf u45_Na u45_Nh u45_Nq u45_Nj u45_tc u45_M1)) hE.1 C (e_MM_item_a hE hKy l n u45_tc z u45_Ni u45_No u45_Nx u45_Nf u45_Na u45_Nh u45_Nq u45_Nj u45_M1 hq4) hP (hDD _ _ _ _ _ _ _ _ _ _ _ _) hS hl.1 rfl mw_0 k_9_90 k_9_92 k_s_94 k_1_12 k_9_93 hv_MM_item rfl rfl ⟨(Nat.le_of_ble_eq_true rfl), (Nat.le_of_ble_eq_true rfl)⟩ rfl (Nat.le_of_ble_eq_true rfl) ⟨Nat.zero_le _, Nat.zero_le _⟩ rfl d_MM_choice_79 (fun H locs hP hS => ?_)
        refine lv_istore_n (lv' := [(3, .int q4.1), (0, .ref (ad 0)), (1, .int u45_x1), (2, .int u45_x2)]) hx hb d_MM_choice_82 rfl hl (by decide) rfl (fun ls hl => ?_)
        refine lv_aload_n hx hb d_MM_choice_83 rfl (lv_at hl 1 rfl) ?_
        refine o_get (v := .int (NP_broken q4.2)) C in_MM hP 0 mw_0 rfl 32 (by decide) k_8_22 rfl rfl d_MM_choice_84 ?_
        refine lv_if_eq (tgt := 95) hx hb d_MM_choice_87 (by decide) (fun c6 => ?_) (fun c6 => ?_)
        · replace h := o_tt c6 h
          refine lv_aload_n hx hb d_MM_choice_95 rfl (lv_at hl 1 rfl) ?_
          refine lv_iconst (v := (0:Int32)) hx hb d_MM_choice_96 (by decide) ?_
          obtain ⟨q5, hq5, h⟩ := o_bd_some h
          refine o_V (st1 := [.int q5]) (w1 := (m_cw ad ca ky ty 33 u45_Ni q4.2 u45_No u45_Nx u45_Nf u45_Na u45_Nh u45_Nq u45_Nj u45_tc u45_M1)) hE.1 C (e_MM_p_a hE hKy l (0:Int32) u45_tc q4.2 u45_Ni u45_No u45_Nx u45_Nf u45_Na u45_Nh u45_Nq u45_Nj u45_M1 hq5) hP (hDD _ _ _ _ _ _ _ _ _ _ _ _) hS hl.1 rfl mw_0 k_9_70 k_9_72 k_s_89 k_1_12 k_9_73 hv_MM_p rfl rfl ⟨(Nat.le_of_ble_eq_true rfl), (Nat.le_of_ble_eq_true rfl)⟩ rfl (Nat.le_of_ble_eq_true rfl) ⟨Nat.zero_le _, Nat.zero_le _⟩ rfl d_MM_choice_97 (fun H locs hP hS => ?_)
          refine lv_bipush (v := (45:Int32)) hx hb d_MM_choice_100 (by decide) ?_
          refine lv_icmp_ne (tgt := 123) hx hb d_MM_choice_102 (by decide) (fun c7 => ?_) (fun c7 => ?_)
          · replace h := o_ff c7 h
            exact f_MM_choice_j123_a hE hKy C hDD n u45_x1 u45_x2 u45_tc u45_Ni u45_No u45_Nx u45_Nf u45_Na u45_Nh u45_Nq u45_Nj u45_M1 q4.1 q4.2 h h0 h1 _ _ _ hP hS (lv_sub hl [1, 2, 3, 0] rfl)
          · replace h := o_tt c7 h
            refine lv_aload_n hx hb d_MM_choice_105 rfl (lv_at hl 1 rfl) ?_
            refine lv_iconst (v := (1:Int32)) hx hb d_MM_choice_106 (by decide) ?_
            obtain ⟨q7, hq7, h⟩ := o_bd_some h
            refine o_V (st1 := [.int q7]) (w1 := (m_cw ad ca ky ty 33 u45_Ni q4.2 u45_No u45_Nx u45_Nf u45_Na u45_Nh u45_Nq u45_Nj u45_tc u45_M1)) hE.1 C (e_MM_p_a hE hKy l (1:Int32) u45_tc q4.2 u45_Ni u45_No u45_Nx u45_Nf u45_Na u45_Nh u45_Nq u45_Nj u45_M1 hq7) hP (hDD _ _ _ _ _ _ _ _ _ _ _ _) hS hl.1 rfl mw_0 k_9_70 k_9_72 k_s_89 k_1_12 k_9_73 hv_MM_p rfl rfl ⟨(Nat.le_of_ble_eq_true rfl), (Nat.le_of_ble_eq_true rfl)⟩ rfl (Nat.le_of_ble_eq_true rfl) ⟨Nat.zero_le _, Nat.zero_le _⟩ rfl d_MM_choice_107 (fun H locs hP hS => ?_)
            refine lv_bipush (v := (93:Int32)) hx hb d_MM_choice_110 (by decide) ?_
            refine lv_icmp_eq (tgt := 123) hx hb d_MM_choice_112 (by decide) (fun c9 => ?_) (fun c9 => ?_)
            · replace h := o_tt c9 h
              exact f_MM_choice_j123_a hE hKy C hDD n u45_x1 u45_x2 u45_tc u45_Ni u45_No u45_Nx u45_Nf u45_Na u45_Nh u45_Nq u45_Nj u45_M1 q4.1 q4.2 h h0 h1 _ _ _ hP hS (lv_sub hl [1, 2, 3, 0] rfl)
            · replace h := o_ff c9 h
              refine lv_aload_n hx hb d_MM_choice_115 rfl (lv_at hl 1 rfl) ?_
              refine lv_iconst (v := (1:Int32)) hx hb d_MM_choice_116 (by decide) ?_
              obtain ⟨q8, hq8, h⟩ := o_bd_some h
              refine o_V (st1 := [.int q8]) (w1 := (m_cw ad ca ky ty 33 u45_Ni q4.2 u45_No u45_Nx u45_Nf u45_Na u45_Nh u45_Nq u45_Nj u45_tc u45_M1)) hE.1 C (e_MM_p_a hE hKy l (1:Int32) u45_tc q4.2 u45_Ni u45_No u45_Nx u45_Nf u45_Na u45_Nh u45_Nq u45_Nj u45_M1 hq8) hP (hDD _ _ _ _ _ _ _ _ _ _ _ _) hS hl.1 rfl mw_0 k_9_70 k_9_72 k_s_89 k_1_12 k_9_73 hv_MM_p rfl rfl ⟨(Nat.le_of_ble_eq_true rfl), (Nat.le_of_ble_eq_true rfl)⟩ rfl (Nat.le_of_ble_eq_true rfl) ⟨Nat.zero_le _, Nat.zero_le _⟩ rfl d_MM_choice_117 (fun H locs hP hS => ?_)
              refine lv_if_ge (tgt := 136) hx hb d_MM_choice_120 (by decide) (fun c10 => ?_) (fun c10 => ?_)
              · replace h := o_tt c10 h
                refine lv_aload_n hx hb d_MM_choice_136 rfl (lv_at hl 1 rfl) ?_
                refine lv_dup hx hb d_MM_choice_137 rfl ?_
                refine o_get (v := .int (NP_pat q4.2)) C in_MM hP 0 mw_0 rfl 27 (by decide) k_8_17 rfl rfl d_MM_choice_138 ?_
                refine lv_iconst (v := (1:Int32)) hx hb d_MM_choice_141 (by decide) ?_
                refine lv_iadd hx hb d_MM_choice_142 ?_
                refine o_put (v := .int ((NP_pat q4.2) + (1:Int32))) (ty := .int) (w1 := (m_cw ad ca ky ty 33 u45_Ni (NP_mk (NP_nodeKind q4.2) (NP_nodeA q4.2) (NP_nodeB q4.2) (NP_nodeC q4.2) (NP_nodeNext q4.2) (NP_low q4.2) (NP_high q4.2) (NP_setFrom q4.2) (NP_setTo q4.2) (NP_setNot q4.2) (NP_nodes q4.2) (NP_sets q4.2) (NP_ranges q4.2) ((NP_pat q4.2) + (1:Int32)) (NP_patEnd q4.2) (NP_broken q4.2)) u45_No u45_Nx u45_Nf u45_Na u45_Nh u45_Nq u45_Nj u45_tc u45_M1)) C in_MM t_MM t_MM_ok n_MM hP (hDD _ _ _ _ _ _ _ _ _ _ _ _) hS 0 mw_0 rfl 27 (by decide) k_8_17 rfl rfl (by decide +kernel) rfl rfl (Nat.le_of_ble_eq_true rfl) rfl d_MM_choice_143 (fun H locs hP hS => ?_)
                refine lv_aload_n hx hb d_MM_choice_146 rfl (lv_at hl 1 rfl) ?_
                obtain ⟨q9, hq9, h⟩ := o_bd_some h
                refine o_V (st1 := [.int q9.1]) (w1 := (m_cw ad ca ky ty 33 u45_Ni q9.2 u45_No u45_Nx u45_Nf u45_Na u45_Nh u45_Nq u45_Nj u45_tc u45_M1)) hE.1 C (e_MM_item_a hE hKy l n u45_tc (NP_mk (NP_nodeKind q4.2) (NP_nodeA q4.2) (NP_nodeB q4.2) (NP_nodeC q4.2) (NP_nodeNext q4.2) (NP_low q4.2) (NP_high q4.2) (NP_setFrom q4.2) (NP_setTo q4.2) (NP_setNot q4.2) (NP_nodes q4.2) (NP_sets q4.2) (NP_ranges q4.2) ((NP_pat q4.2) + (1:Int32)) (NP_patEnd q4.2) (NP_broken q4.2)) u45_Ni u45_No u45_Nx u45_Nf u45_Na u45_Nh u45_Nq u45_Nj u45_M1 hq9) hP (hDD _ _ _ _ _ _ _ _ _ _ _ _) hS hl.1 rfl mw_0 k_9_90 k_9_92 k_s_94 k_1_12 k_9_93 hv_MM_item rfl rfl ⟨(Nat.le_of_ble_eq_true rfl), (Nat.le_of_ble_eq_true rfl)⟩ rfl (Nat.le_of_ble_eq_true rfl) ⟨Nat.zero_le _, Nat.zero_le _⟩ rfl d_MM_choice_147 (fun H locs hP hS => ?_)
                refine lv_istore (lv' := [(4, .int q9.1), (3, .int q4.1), (0, .ref (ad 0)), (1, .int u45_x1), (2, .int u45_x2)]) hx hb d_MM_choice_150 hl (by decide) rfl (fun ls hl => ?_)
                refine lv_aload_n hx hb d_MM_choice_152 rfl (lv_at hl 2 rfl) ?_
                refine o_get (v := .int (NP_broken q9.2)) C in_MM hP 0 mw_0 rfl 32 (by decide) k_8_22 rfl rfl d_MM_choice_153 ?_
                refine lv_if_ne (tgt := 174) hx hb d_MM_choice_156 (by decide) (fun c11 => ?_) (fun c11 => ?_)
                · replace h := o_ff c11 h
                  cases h
                  exact h1 (Nat.succ_ne_zero 2) _ _ _ hP hS (lv_sub hl [2] rfl)
                · replace h := o_tt c11 h
                  refine lv_iload_n hx hb d_MM_choice_159 rfl (lv_at hl 1 rfl) ?_
                  refine lv_if_lt (tgt := 174) hx hb d_MM_choice_160 (by decide) (fun c12 => ?_) (fun c12 => ?_)
                  · replace h := o_tt c12 h
                    cases h
                    exact h1 (Nat.succ_ne_zero 2) _ _ _ hP hS (lv_sub hl [2] rfl)
                  · replace h := o_ff c12 h
                    refine lv_iload hx hb d_MM_choice_163 (lv_at hl 0 rfl) ?_
                    refine lv_if_lt (tgt := 174) hx hb d_MM_choice_165 (by decide) (fun c13 => ?_) (fun c13 => ?_)
                    · replace h := o_tt c13 h
                      cases h
                      exact h1 (Nat.succ_ne_zero 2) _ _ _ hP hS (lv_sub hl [2] rfl)
                    · replace h := o_ff c13 h
                      refine lv_iload_n hx hb d_MM_choice_168 rfl (lv_at hl 1 rfl) ?_
                      refine lv_iload hx hb d_MM_choice_169 (lv_at hl 0 rfl) ?_
                      refine lv_icmp_le (tgt := 179) hx hb d_MM_choice_171 (by decide) (fun c14 => ?_) (fun c14 => ?_)
                      · replace h := o_tt c14 h
                        refine lv_aload_n hx hb d_MM_choice_179 rfl (lv_at hl 2 rfl) ?_
                        refine lv_iload_n hx hb d_MM_choice_180 rfl (lv_at hl 1 rfl) ?_
                        refine lv_iload hx hb d_MM_choice_181 (lv_at hl 0 rfl) ?_
                        obtain ⟨q10, hq10, h⟩ := o_bd_some h
                        refine o_V (st1 := []) (w1 := (m_cw ad ca ky ty 33 u45_Ni q10 u45_No u45_Nx u45_Nf u45_Na u45_Nh u45_Nq u45_Nj u45_tc u45_M1)) hE.1 C (e_MM_range hE hKy l q4.1 q9.1 q9.2 u45_Ni u45_No u45_Nx u45_Nf u45_Na u45_Nh u45_Nq u45_Nj u45_tc u45_M1 33 hq10) hP (hDD _ _ _ _ _ _ _ _ _ _ _ _) hS hl.1 rfl mw_0 k_9_102 k_9_104 k_s_97 k_1_12 k_9_105 hv_MM_range rfl rfl ⟨(Nat.le_of_ble_eq_true rfl), (Nat.le_of_ble_eq_true rfl)⟩ rfl (Nat.le_of_ble_eq_true rfl) ⟨Nat.zero_le _, Nat.zero_le _⟩ rfl d_MM_choice_183 (fun H locs hP hS => ?_)
                        refine lv_goto (tgt := 45) hx hb d_MM_choice_186 (by decide) ?_
                        cases h
                        exact h0 rfl _ _ _ hP hS (lv_sub hl [2, 3, 4] rfl)
                      · replace h := o_ff c14 h
                        cases h
                        exact h1 (Nat.succ_ne_zero 2) _ _ _ hP hS (lv_sub hl [2] rfl)
              · replace h := o_ff c10 h
                exact f_MM_choice_j123_a hE hKy C hDD n u45_x1 u45_x2 u45_tc u45_Ni u45_No u45_Nx u45_Nf u45_Na u45_Nh u45_Nq u45_Nj u45_M1 q4.1 q4.2 h h0 h1 _ _ _ hP hS (lv_sub hl [1, 2, 3, 0] rfl)
        · replace h := o_ff c6 h
          cases h
          exact h1 (Nat.succ_ne_zero 1) _ _ _ hP hS (lv_sub hl [1] rfl)
      · replace h := o_ff c5 h
        cases h
        exact h1 (Nat.succ_ne_zero 0) _ _ _ hP hS (lv_sub hl [0] rfl)
set_option maxHeartbeats 4000000 in
set_option maxRecDepth 100000 in
theorem f_MM_choice_j174_a {E : (Nat → Prop) → State → Heap → Prop} {p : Program} {l : Launch} {e : Env} {s : State} {m : MethodId} {args : Array Value} {below : List Frame} {meth : Method} {c : Code} {D : va_G} {ad kd sd vd xd : Nat → Nat} {ca : Nat → ClassId} {A : Nat → Prop} {ky ty : Nat → Option Nat} (hE : o_EK E kd sd vd xd) (hKy : m_KY ky ty sd) (C : o_Cx E p s m args meth c D m_cls (m_tys ca) "SchemaJudgeModel" b_MM_choice (some .int) 5 cc_MM_choice A) (hDD : ∀ (rt : Nat) (Ni : SNI) (Np : SNP) (No : SNO) (Nx : SNX) (Nf : SNF) (Na : SNA) (Nh : SNH) (Nq : SNQ) (Nj : SNJ) (M0 : SMT) (M1 : SMT), va_D A (m_cw ad ca ky ty rt Ni Np No Nx Nf Na Nh Nq Nj M0 M1)) (n : Nat)  (tc : SMT) (Np : SNP) (Ni : SNI) (No : SNO) (Nx : SNX) (Nf : SNF) (Na : SNA) (Nh : SNH) (Nq : SNQ) (Nj : SNJ) (M1 : SMT) {r : Int32 × SNP} (h : m_MM_choice_j174 n tc Np = some r) : o_At p l e rm_MM_choice s m args below meth c (MQ below (o_Qx D m_cls (some (.int r.1)) (m_cw ad ca ky ty 33 Ni r.2 No Nx Nf Na Nh Nq Nj tc M1) A) args s 0 0 A) m_cls D A 5 174 [] (m_cw ad ca ky ty 33 Ni Np No Nx Nf Na Nh Nq Nj tc M1) [(0, .ref (ad 0))] := by
  unfold m_MM_choice_j174 at h
  intro H locs ls hP hS hl
  have C0 := C
  obtain ⟨hx, hb, -, -, -, hown, hts, hK, -, -⟩ := C0
  refine lv_aload_n hx hb d_MM_choice_174 rfl (lv_at hl 0 rfl) ?_
  obtain ⟨q14, hq14, h⟩ := o_bd_some h
  refine o_V (st1 := [.int q14.1]) (w1 := (m_cw ad ca ky ty 33 Ni q14.2 No Nx Nf Na Nh Nq Nj tc M1)) hE.1 C (e_MM_no hE hKy l Np Ni No Nx Nf Na Nh Nq Nj tc M1 33 hq14) hP (hDD _ _ _ _ _ _ _ _ _ _ _ _) hS hl.1 rfl mw_0 k_9_78 k_9_80 k_s_91 k_1_12 k_9_81 hv_MM_no rfl rfl ⟨(Nat.le_of_ble_eq_true rfl), (Nat.le_of_ble_eq_true rfl)⟩ rfl (Nat.le_of_ble_eq_true rfl) ⟨Nat.zero_le _, Nat.zero_le _⟩ rfl d_MM_choice_175 (fun H locs hP hS => ?_)
  cases h
  exact o_ri C hP hS d_MM_choice_178
set_option maxHeartbeats 4000000 in
set_option maxRecDepth 100000 in
theorem f_MM_choice_j189_a {E : (Nat → Prop) → State → Heap → Prop} {p : Program} {l : Launch} {e : Env} {s : State} {m : MethodId} {args : Array Value} {below : List Frame} {meth : Method} {c : Code} {D : va_G} {ad kd sd vd xd : Nat → Nat} {ca : Nat → ClassId} {A : Nat → Prop} {ky ty : Nat → Option Nat} (hE : o_EK E kd sd vd xd) (hKy : m_KY ky ty sd) (C : o_Cx E p s m args meth c D m_cls (m_tys ca) "SchemaJudgeModel" b_MM_choice (some .int) 5 cc_MM_choice A) (hDD : ∀ (rt : Nat) (Ni : SNI) (Np : SNP) (No : SNO) (Nx : SNX) (Nf : SNF) (Na : SNA) (Nh : SNH) (Nq : SNQ) (Nj : SNJ) (M0 : SMT) (M1 : SMT), va_D A (m_cw ad ca ky ty rt Ni Np No Nx Nf Na Nh Nq Nj M0 M1)) (n : Nat) (x1 : Int32) (x2 : Int32) (tc : SMT) (Np : SNP) (Ni : SNI) (No : SNO) (Nx : SNX) (Nf : SNF) (Na : SNA) (Nh : SNH) (Nq : SNQ) (Nj : SNJ) (M1 : SMT) {r : Int32 × SNP} (h : m_MM_choice_j189 n x1 x2 tc Np = some r) : o_At p l e rm_MM_choice s m args below meth c (MQ below (o_Qx D m_cls (some (.int r.1)) (m_cw ad ca ky ty 33 Ni r.2 No Nx Nf Na Nh Nq Nj tc M1) A) args s 0 0 A) m_cls D A 5 189 [] (m_cw ad ca ky ty 33 Ni Np No Nx Nf Na Nh Nq Nj tc M1) [(0, .ref (ad 0)), (1, .int x1), (2, .int x2)] := by
  unfold m_MM_choice_j189 at h
  intro H locs ls hP hS hl
  have C0 := C
  obtain ⟨hx, hb, -, -, -, hown, hts, hK, -, -⟩ := C0
  refine lv_aload_n hx hb d_MM_choice_189 rfl (lv_at hl 0 rfl) ?_
  refine o_get (v := .int (NP_broken Np)) C in_MM hP 0 mw_0 rfl 32 (by decide) k_8_22 rfl rfl d_MM_choice_190 ?_
  refine lv_if_eq (tgt := 201) hx hb d_MM_choice_193 (by decide) (fun c15 => ?_) (fun c15 => ?_)
  · replace h := o_tt c15 h
    refine lv_aload_n hx hb d_MM_choice_201 rfl (lv_at hl 0 rfl) ?_
    refine lv_dup hx hb d_MM_choice_202 rfl ?_
    refine o_get (v := .int (NP_pat Np)) C in_MM hP 0 mw_0 rfl 27 (by decide) k_8_17 rfl rfl d_MM_choice_203 ?_
    refine lv_iconst (v := (1:Int32)) hx hb d_MM_choice_206 (by decide) ?_
    refine lv_iadd hx hb d_MM_choice_207 ?_
    refine o_put (v := .int ((NP_pat Np) + (1:Int32))) (ty := .int) (w1 := (m_cw ad ca ky ty 33 Ni (NP_mk (NP_nodeKind Np) (NP_nodeA Np) (NP_nodeB Np) (NP_nodeC Np) (NP_nodeNext Np) (NP_low Np) (NP_high Np) (NP_setFrom Np) (NP_setTo Np) (NP_setNot Np) (NP_nodes Np) (NP_sets Np) (NP_ranges Np) ((NP_pat Np) + (1:Int32)) (NP_patEnd Np) (NP_broken Np)) No Nx Nf Na Nh Nq Nj tc M1)) C in_MM t_MM t_MM_ok n_MM hP (hDD _ _ _ _ _ _ _ _ _ _ _ _) hS 0 mw_0 rfl 27 (by decide) k_8_17 rfl rfl (by decide +kernel) rfl rfl (Nat.le_of_ble_eq_true rfl) rfl d_MM_choice_208 (fun H locs hP hS => ?_)
    refine lv_aload_n hx hb d_MM_choice_211 rfl (lv_at hl 0 rfl) ?_
    refine lv_iload_n hx hb d_MM_choice_212 rfl (lv_at hl 2 rfl) ?_
    refine lv_iload_n hx hb d_MM_choice_213 rfl (lv_at hl 1 rfl) ?_
    obtain ⟨q15, hq15, h⟩ := o_bd_some h
    refine o_V (st1 := [.int q15.1]) (w1 := (m_cw ad ca ky ty 33 Ni q15.2 No Nx Nf Na Nh Nq Nj tc M1)) hE.1 C (e_MM_close hE hKy l x2 x1 (NP_mk (NP_nodeKind Np) (NP_nodeA Np) (NP_nodeB Np) (NP_nodeC Np) (NP_nodeNext Np) (NP_low Np) (NP_high Np) (NP_setFrom Np) (NP_setTo Np) (NP_setNot Np) (NP_nodes Np) (NP_sets Np) (NP_ranges Np) ((NP_pat Np) + (1:Int32)) (NP_patEnd Np) (NP_broken Np)) Ni No Nx Nf Na Nh Nq Nj tc M1 33 hq15) hP (hDD _ _ _ _ _ _ _ _ _ _ _ _) hS hl.1 rfl mw_0 k_9_117 k_9_119 k_s_100 k_1_12 k_9_120 hv_MM_close rfl rfl ⟨(Nat.le_of_ble_eq_true rfl), (Nat.le_of_ble_eq_true rfl)⟩ rfl (Nat.le_of_ble_eq_true rfl) ⟨Nat.zero_le _, Nat.zero_le _⟩ rfl d_MM_choice_214 (fun H locs hP hS => ?_)
    cases h
    exact o_ri C hP hS d_MM_choice_217
  · replace h := o_ff c15 h
    refine lv_aload_n hx hb d_MM_choice_196 rfl (lv_at hl 0 rfl) ?_
    obtain ⟨q16, hq16, h⟩ := o_bd_some h
    refine o_V (st1 := [.int q16.1]) (w1 := (m_cw ad ca ky ty 33 Ni q16.2 No Nx Nf Na Nh Nq Nj tc M1)) hE.1 C (e_MM_no hE hKy l Np Ni No Nx Nf Na Nh Nq Nj tc M1 33 hq16) hP (hDD _ _ _ _ _ _ _ _ _ _ _ _) hS hl.1 rfl mw_0 k_9_78 k_9_80 k_s_91 k_1_12 k_9_81 hv_MM_no rfl rfl ⟨(Nat.le_of_ble_eq_true rfl), (Nat.le_of_ble_eq_true rfl)⟩ rfl (Nat.le_of_ble_eq_true rfl) ⟨Nat.zero_le _, Nat.zero_le _⟩ rfl d_MM_choice_197 (fun H locs hP hS => ?_)
    cases h
    exact o_ri C hP hS d_MM_choice_200
set_option maxHeartbeats 4000000 in
set_option maxRecDepth 100000 in
theorem f_MM_choice_j40_a {E : (Nat → Prop) → State → Heap → Prop} {p : Program} {l : Launch} {e : Env} {s : State} {m : MethodId} {args : Array Value} {below : List Frame} {meth : Method} {c : Code} {D : va_G} {ad kd sd vd xd : Nat → Nat} {ca : Nat → ClassId} {A : Nat → Prop} {ky ty : Nat → Option Nat} (hE : o_EK E kd sd vd xd) (hKy : m_KY ky ty sd) (C : o_Cx E p s m args meth c D m_cls (m_tys ca) "SchemaJudgeModel" b_MM_choice (some .int) 5 cc_MM_choice A) (hDD : ∀ (rt : Nat) (Ni : SNI) (Np : SNP) (No : SNO) (Nx : SNX) (Nf : SNF) (Na : SNA) (Nh : SNH) (Nq : SNQ) (Nj : SNJ) (M0 : SMT) (M1 : SMT), va_D A (m_cw ad ca ky ty rt Ni Np No Nx Nf Na Nh Nq Nj M0 M1)) (n : Nat) (x1 : Int32) (tc : SMT) (Np : SNP) (Ni : SNI) (No : SNO) (Nx : SNX) (Nf : SNF) (Na : SNA) (Nh : SNH) (Nq : SNQ) (Nj : SNJ) (M1 : SMT) {r : Int32 × SNP} (h : m_MM_choice_j40 n x1 tc Np = some r) : o_At p l e rm_MM_choice s m args below meth c (MQ below (o_Qx D m_cls (some (.int r.1)) (m_cw ad ca ky ty 33 Ni r.2 No Nx Nf Na Nh Nq Nj tc M1) A) args s 0 0 A) m_cls D A 5 40 [] (m_cw ad ca ky ty 33 Ni Np No Nx Nf Na Nh Nq Nj tc M1) [(0, .ref (ad 0)), (1, .int x1)] := by
  unfold m_MM_choice_j40 at h
  intro H locs ls hP hS hl
  have C0 := C
  obtain ⟨hx, hb, -, -, -, hown, hts, hK, -, -⟩ := C0
  refine lv_aload_n hx hb d_MM_choice_40 rfl (lv_at hl 0 rfl) ?_
  obtain ⟨q2, hq2, h⟩ := o_bd_some h
  refine o_V (st1 := [.int q2]) (w1 := (m_cw ad ca ky ty 33 Ni Np No Nx Nf Na Nh Nq Nj tc M1)) hE.1 C (e_MM_begin hE hKy l Np Ni No Nx Nf Na Nh Nq Nj tc M1 33 hq2) hP (hDD _ _ _ _ _ _ _ _ _ _ _ _) hS hl.1 rfl mw_0 k_9_86 k_9_88 k_s_93 k_1_12 k_9_89 hv_MM_begin rfl rfl ⟨(Nat.le_of_ble_eq_true rfl), (Nat.le_of_ble_eq_true rfl)⟩ rfl (Nat.le_of_ble_eq_true rfl) ⟨Nat.zero_le _, Nat.zero_le _⟩ rfl d_MM_choice_41 (fun H locs hP hS => ?_)
  refine lv_istore_n (lv' := [(2, .int q2), (0, .ref (ad 0)), (1, .int x1)]) hx hb d_MM_choice_44 rfl hl (by decide) rfl (fun ls hl => ?_)
  obtain ⟨q11, hq11, h⟩ := o_bd_some h
  refine o_sim2 (AH := fun zz => o_At p l e rm_MM_choice s m args below meth c _ m_cls D A 5 45 [] (m_cw ad ca ky ty 33 Ni zz No Nx Nf Na Nh Nq Nj tc M1) [(0, .ref (ad 0)), (1, .int x1), (2, .int q2)]) (AX := fun qq => if qq.1 = 1 then o_At p l e rm_MM_choice s m args below meth c _ m_cls D A 5 73 [] (m_cw ad ca ky ty 33 Ni qq.2 No Nx Nf Na Nh Nq Nj tc M1) [(0, .ref (ad 0))] else if qq.1 = 2 then o_At p l e rm_MM_choice s m args below meth c _ m_cls D A 5 90 [] (m_cw ad ca ky ty 33 Ni qq.2 No Nx Nf Na Nh Nq Nj tc M1) [(0, .ref (ad 0))] else if qq.1 = 3 then o_At p l e rm_MM_choice s m args below meth c _ m_cls D A 5 174 [] (m_cw ad ca ky ty 33 Ni qq.2 No Nx Nf Na Nh Nq Nj tc M1) [(0, .ref (ad 0))] else o_At p l e rm_MM_choice s m args below meth c _ m_cls D A 5 189 [] (m_cw ad ca ky ty 33 Ni qq.2 No Nx Nf Na Nh Nq Nj tc M1) [(0, .ref (ad 0)), (1, .int x1), (2, .int q2)]) (fun zz qq h h0 h1 => f_MM_choice_b45_a hE hKy C hDD n x1 q2 tc Ni No Nx Nf Na Nh Nq Nj M1 zz qq h h0 h1) n _ q11 hq11 ?_ _ _ _ hP hS (lv_sub hl [1, 2, 0] rfl)
  by_cases c16 : q11.1 = 1
  · replace h := o_tt c16 h
    refine o_ip c16 ?_
    intro H locs ls hP hS hl
    refine lv_aload_n hx hb d_MM_choice_73 rfl (lv_at hl 0 rfl) ?_
    obtain ⟨q12, hq12, h⟩ := o_bd_some h
    refine o_V (st1 := [.int q12.1]) (w1 := (m_cw ad ca ky ty 33 Ni q12.2 No Nx Nf Na Nh Nq Nj tc M1)) hE.1 C (e_MM_no hE hKy l q11.2 Ni No Nx Nf Na Nh Nq Nj tc M1 33 hq12) hP (hDD _ _ _ _ _ _ _ _ _ _ _ _) hS hl.1 rfl mw_0 k_9_78 k_9_80 k_s_91 k_1_12 k_9_81 hv_MM_no rfl rfl ⟨(Nat.le_of_ble_eq_true rfl), (Nat.le_of_ble_eq_true rfl)⟩ rfl (Nat.le_of_ble_eq_true rfl) ⟨Nat.zero_le _, Nat.zero_le _⟩ rfl d_MM_choice_74 (fun H locs hP hS => ?_)
    cases h
    exact o_ri C hP hS d_MM_choice_77
  replace h := o_ff c16 h
  refine o_in_ c16 ?_
  by_cases c17 : q11.1 = 2
  · replace h := o_tt c17 h
    refine o_ip c17 ?_
    intro H locs ls hP hS hl
    refine lv_aload_n hx hb d_MM_choice_90 rfl (lv_at hl 0 rfl) ?_
    obtain ⟨q13, hq13, h⟩ := o_bd_some h
    refine o_V (st1 := [.int q13.1]) (w1 := (m_cw ad ca ky ty 33 Ni q13.2 No Nx Nf Na Nh Nq Nj tc M1)) hE.1 C (e_MM_no hE hKy l q11.2 Ni No Nx Nf Na Nh Nq Nj tc M1 33 hq13) hP (hDD _ _ _ _ _ _ _ _ _ _ _ _) hS hl.1 rfl mw_0 k_9_78 k_9_80 k_s_91 k_1_12 k_9_81 hv_MM_no rfl rfl ⟨(Nat.le_of_ble_eq_true rfl), (Nat.le_of_ble_eq_true rfl)⟩ rfl (Nat.le_of_ble_eq_true rfl) ⟨Nat.zero_le _, Nat.zero_le _⟩ rfl d_MM_choice_91 (fun H locs hP hS => ?_)
    cases h
    exact o_ri C hP hS d_MM_choice_94
  replace h := o_ff c17 h
  refine o_in_ c17 ?_
  by_cases c18 : q11.1 = 3
  · replace h := o_tt c18 h
    refine o_ip c18 ?_
    intro H locs ls hP hS hl
    exact f_MM_choice_j174_a hE hKy C hDD n tc q11.2 Ni No Nx Nf Na Nh Nq Nj M1 h _ _ _ hP hS (lv_sub hl [0] rfl)
  replace h := o_ff c18 h
  refine o_in_ c18 ?_
  intro H locs ls hP hS hl
  exact f_MM_choice_j189_a hE hKy C hDD n x1 q2 tc q11.2 Ni No Nx Nf Na Nh Nq Nj M1 h _ _ _ hP hS (lv_sub hl [0, 1, 2] rfl)
set_option maxHeartbeats 4000000 in
set_option maxRecDepth 100000 in
theorem f_MM_choice_j25_a {E : (Nat → Prop) → State → Heap → Prop} {p : Program} {l : Launch} {e : Env} {s : State} {m : MethodId} {args : Array Value} {below : List Frame} {meth : Method} {c : Code} {D : va_G} {ad kd sd vd xd : Nat → Nat} {ca : Nat → ClassId} {A : Nat → Prop} {ky ty : Nat → Option Nat} (hE : o_EK E kd sd vd xd) (hKy : m_KY ky ty sd) (C : o_Cx E p s m args meth c D m_cls (m_tys ca) "SchemaJudgeModel" b_MM_choice (some .int) 5 cc_MM_choice A) (hDD : ∀ (rt : Nat) (Ni : SNI) (Np : SNP) (No : SNO) (Nx : SNX) (Nf : SNF) (Na : SNA) (Nh : SNH) (Nq : SNQ) (Nj : SNJ) (M0 : SMT) (M1 : SMT), va_D A (m_cw ad ca ky ty rt Ni Np No Nx Nf Na Nh Nq Nj M0 M1)) (n : Nat) (y0 : Int32) (tc : SMT) (Np : SNP) (Ni : SNI) (No : SNO) (Nx : SNX) (Nf : SNF) (Na : SNA) (Nh : SNH) (Nq : SNQ) (Nj : SNJ) (M1 : SMT) {r : Int32 × SNP} (h : m_MM_choice_j25 n y0 tc Np = some r) : o_At p l e rm_MM_choice s m args below meth c (MQ below (o_Qx D m_cls (some (.int r.1)) (m_cw ad ca ky ty 33 Ni r.2 No Nx Nf Na Nh Nq Nj tc M1) A) args s 0 0 A) m_cls D A 5 25 [.int y0] (m_cw ad ca ky ty 33 Ni Np No Nx Nf Na Nh Nq Nj tc M1) [(0, .ref (ad 0))] := by
  unfold m_MM_choice_j25 at h
  intro H locs ls hP hS hl
  have C0 := C
  obtain ⟨hx, hb, -, -, -, hown, hts, hK, -, -⟩ := C0
  refine lv_istore_n (lv' := [(1, .int y0), (0, .ref (ad 0))]) hx hb d_MM_choice_25 rfl hl (by decide) rfl (fun ls hl => ?_)
  refine lv_iload_n hx hb d_MM_choice_26 rfl (lv_at hl 0 rfl) ?_
  refine lv_if_eq (tgt := 40) hx hb d_MM_choice_27 (by decide) (fun c2 => ?_) (fun c2 => ?_)
  · replace h := o_tt c2 h
    exact f_MM_choice_j40_a hE hKy C hDD n y0 tc Np Ni No Nx Nf Na Nh Nq Nj M1 h _ _ _ hP hS (lv_sub hl [1, 0] rfl)
  · replace h := o_ff c2 h
    refine lv_aload_n hx hb d_MM_choice_30 rfl (lv_at hl 1 rfl) ?_
    refine lv_dup hx hb d_MM_choice_31 rfl ?_
    refine o_get (v := .int (NP_pat Np)) C in_MM hP 0 mw_0 rfl 27 (by decide) k_8_17 rfl rfl d_MM_choice_32 ?_
    refine lv_iconst (v := (1:Int32)) hx hb d_MM_choice_35 (by decide) ?_
    refine lv_iadd hx hb d_MM_choice_36 ?_
    refine o_put (v := .int ((NP_pat Np) + (1:Int32))) (ty := .int) (w1 := (m_cw ad ca ky ty 33 Ni (NP_mk (NP_nodeKind Np) (NP_nodeA Np) (NP_nodeB Np) (NP_nodeC Np) (NP_nodeNext Np) (NP_low Np) (NP_high Np) (NP_setFrom Np) (NP_setTo Np) (NP_setNot Np) (NP_nodes Np) (NP_sets Np) (NP_ranges Np) ((NP_pat Np) + (1:Int32)) (NP_patEnd Np) (NP_broken Np)) No Nx Nf Na Nh Nq Nj tc M1)) C in_MM t_MM t_MM_ok n_MM hP (hDD _ _ _ _ _ _ _ _ _ _ _ _) hS 0 mw_0 rfl 27 (by decide) k_8_17 rfl rfl (by decide +kernel) rfl rfl (Nat.le_of_ble_eq_true rfl) rfl d_MM_choice_37 (fun H locs hP hS => ?_)
    exact f_MM_choice_j40_a hE hKy C hDD n y0 tc (NP_mk (NP_nodeKind Np) (NP_nodeA Np) (NP_nodeB Np) (NP_nodeC Np) (NP_nodeNext Np) (NP_low Np) (NP_high Np) (NP_setFrom Np) (NP_setTo Np) (NP_setNot Np) (NP_nodes Np) (NP_sets Np) (NP_ranges Np) ((NP_pat Np) + (1:Int32)) (NP_patEnd Np) (NP_broken Np)) Ni No Nx Nf Na Nh Nq Nj M1 h _ _ _ hP hS (lv_sub hl [1, 0] rfl)
set_option maxHeartbeats 4000000 in
set_option maxRecDepth 100000 in
theorem e_MM_choice_a {E : (Nat → Prop) → State → Heap → Prop} {D : va_G} {ad kd sd vd xd : Nat → Nat} {ca : Nat → ClassId} {ky ty : Nat → Option Nat} (hE : o_EK E kd sd vd xd) (hKy : m_KY ky ty sd) (l : Launch) (n : Nat)  (tc : SMT) (Np : SNP) (Ni : SNI) (No : SNO) (Nx : SNX) (Nf : SNF) (Na : SNA) (Nh : SNH) (Nq : SNQ) (Nj : SNJ) (M1 : SMT) {r : Int32 × SNP} (h : m_MM_choice n tc Np = some r) : o_Cn E l D m_cls (m_tys ca) y_MM_choice cc_MM_choice rm_MM_choice [.ref (ad 0)] (m_cw ad ca ky ty 33 Ni Np No Nx Nf Na Nh Nq Nj tc M1) (m_cw ad ca ky ty 33 Ni r.2 No Nx Nf Na Nh Nq Nj tc M1) (some (.int r.1)) := by
  refine o_Cn_of (by decide) (Nat.le_of_ble_eq_true rfl) ?_
  intro p e s m below meth c A ls C hD hP hS hl
  have hDD : ∀ (rt : Nat) (Ni : SNI) (Np : SNP) (No : SNO) (Nx : SNX) (Nf : SNF) (Na : SNA) (Nh : SNH) (Nq : SNQ) (Nj : SNJ) (M0 : SMT) (M1 : SMT), va_D A (m_cw ad ca ky ty rt Ni Np No Nx Nf Na Nh Nq Nj M0 M1) := fun _ _ _ _ _ _ _ _ _ _ _ _ => o_D_map hD rfl
  have hl : lv_has ls 5 [(0, .ref (ad 0))] := hl
  unfold m_MM_choice at h
  have C0 := C
  obtain ⟨hx, hb, -, -, -, hown, hts, hK, -, -⟩ := C0
  refine lv_aload_n hx hb d_MM_choice_0 rfl (lv_at hl 0 rfl) ?_
  refine lv_dup hx hb d_MM_choice_1 rfl ?_
  refine o_get (v := .int (NP_pat Np)) C in_MM hP 0 mw_0 rfl 27 (by decide) k_8_17 rfl rfl d_MM_choice_2 ?_
  refine lv_iconst (v := (1:Int32)) hx hb d_MM_choice_5 (by decide) ?_
  refine lv_iadd hx hb d_MM_choice_6 ?_
  refine o_put (v := .int ((NP_pat Np) + (1:Int32))) (ty := .int) (w1 := (m_cw ad ca ky ty 33 Ni (NP_mk (NP_nodeKind Np) (NP_nodeA Np) (NP_nodeB Np) (NP_nodeC Np) (NP_nodeNext Np) (NP_low Np) (NP_high Np) (NP_setFrom Np) (NP_setTo Np) (NP_setNot Np) (NP_nodes Np) (NP_sets Np) (NP_ranges Np) ((NP_pat Np) + (1:Int32)) (NP_patEnd Np) (NP_broken Np)) No Nx Nf Na Nh Nq Nj tc M1)) C in_MM t_MM t_MM_ok n_MM hP (hDD _ _ _ _ _ _ _ _ _ _ _ _) hS 0 mw_0 rfl 27 (by decide) k_8_17 rfl rfl (by decide +kernel) rfl rfl (Nat.le_of_ble_eq_true rfl) rfl d_MM_choice_7 (fun H locs hP hS => ?_)
  refine lv_aload_n hx hb d_MM_choice_10 rfl (lv_at hl 0 rfl) ?_
  refine lv_iconst (v := (0:Int32)) hx hb d_MM_choice_11 (by decide) ?_
  obtain ⟨q1, hq1, h⟩ := o_bd_some h
  refine o_V (st1 := [.int q1]) (w1 := (m_cw ad ca ky ty 33 Ni (NP_mk (NP_nodeKind Np) (NP_nodeA Np) (NP_nodeB Np) (NP_nodeC Np) (NP_nodeNext Np) (NP_low Np) (NP_high Np) (NP_setFrom Np) (NP_setTo Np) (NP_setNot Np) (NP_nodes Np) (NP_sets Np) (NP_ranges Np) ((NP_pat Np) + (1:Int32)) (NP_patEnd Np) (NP_broken Np)) No Nx Nf Na Nh Nq Nj tc M1)) hE.1 C (e_MM_p_a hE hKy l (0:Int32) tc (NP_mk (NP_nodeKind Np) (NP_nodeA Np) (NP_nodeB Np) (NP_nodeC Np) (NP_nodeNext Np) (NP_low Np) (NP_high Np) (NP_setFrom Np) (NP_setTo Np) (NP_setNot Np) (NP_nodes Np) (NP_sets Np) (NP_ranges Np) ((NP_pat Np) + (1:Int32)) (NP_patEnd Np) (NP_broken Np)) Ni No Nx Nf Na Nh Nq Nj M1 hq1) hP (hDD _ _ _ _ _ _ _ _ _ _ _ _) hS hl.1 rfl mw_0 k_9_70 k_9_72 k_s_89 k_1_12 k_9_73 hv_MM_p rfl rfl ⟨(Nat.le_of_ble_eq_true rfl), (Nat.le_of_ble_eq_true rfl)⟩ rfl (Nat.le_of_ble_eq_true rfl) ⟨Nat.zero_le _, Nat.zero_le _⟩ rfl d_MM_choice_12 (fun H locs hP hS => ?_)
  refine lv_bipush (v := (94:Int32)) hx hb d_MM_choice_15 (by decide) ?_
  refine lv_icmp_ne (tgt := 24) hx hb d_MM_choice_17 (by decide) (fun c1 => ?_) (fun c1 => ?_)
  · replace h := o_ff c1 h
    refine lv_iconst (v := (0:Int32)) hx hb d_MM_choice_24 (by decide) ?_
    exact f_MM_choice_j25_a hE hKy C hDD n (0:Int32) tc (NP_mk (NP_nodeKind Np) (NP_nodeA Np) (NP_nodeB Np) (NP_nodeC Np) (NP_nodeNext Np) (NP_low Np) (NP_high Np) (NP_setFrom Np) (NP_setTo Np) (NP_setNot Np) (NP_nodes Np) (NP_sets Np) (NP_ranges Np) ((NP_pat Np) + (1:Int32)) (NP_patEnd Np) (NP_broken Np)) Ni No Nx Nf Na Nh Nq Nj M1 h _ _ _ hP hS (lv_sub hl [0] rfl)
  · replace h := o_tt c1 h
    refine lv_iconst (v := (1:Int32)) hx hb d_MM_choice_20 (by decide) ?_
    refine lv_goto (tgt := 25) hx hb d_MM_choice_21 (by decide) ?_
    exact f_MM_choice_j25_a hE hKy C hDD n (1:Int32) tc (NP_mk (NP_nodeKind Np) (NP_nodeA Np) (NP_nodeB Np) (NP_nodeC Np) (NP_nodeNext Np) (NP_low Np) (NP_high Np) (NP_setFrom Np) (NP_setTo Np) (NP_setNot Np) (NP_nodes Np) (NP_sets Np) (NP_ranges Np) ((NP_pat Np) + (1:Int32)) (NP_patEnd Np) (NP_broken Np)) Ni No Nx Nf Na Nh Nq Nj M1 h _ _ _ hP hS (lv_sub hl [0] rfl)
