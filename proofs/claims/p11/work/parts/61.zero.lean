/-! The beginning -/
abbrev z_Sj : SSJ := (SJ_mk ((-1:Int32) : Int32))
abbrev z_T0 : STx := (Tx_mk (fun _ => (0:Int32)) (fun _ => (0:Int32)) (fun _ => (0:Int32)) (fun _ => (0:Int32)) (fun _ => (0:Int32)) (fun _ => (0:Int32)) (fun _ => (0:Int32)) (fun _ => (0:Int32)) (fun _ => (0:Int32)) (fun _ => (0:Int32)) (0 : Int32) (0 : Int32) (0 : Int32))
abbrev z_T1 : STx := (Tx_mk (fun _ => (0:Int32)) (fun _ => (0:Int32)) (fun _ => (0:Int32)) (fun _ => (0:Int32)) (fun _ => (0:Int32)) (fun _ => (0:Int32)) (fun _ => (0:Int32)) (fun _ => (0:Int32)) (fun _ => (0:Int32)) (fun _ => (0:Int32)) (0 : Int32) (0 : Int32) (0 : Int32))
abbrev z_Rd : SRd := (Rd_mk (fun _ => (0:Int32)) (0 : Int32) (0 : Int32) (0 : Int32) (0 : Int32))
abbrev z_Pg : SPg := (Pg_mk (fun _ => (0:Int32)) (fun _ => (0:Int32)) (0 : Int32) (fun _ => (0:Int32)) (0 : Int32) (fun _ => (0:Int32)) (fun _ => (0:Int32)) (0 : Int32) (fun _ => (0:Int32)) (0 : Int32) (fun _ => (0:Int32)))
abbrev z_Pt : SPt := (Pt_mk (fun _ => (0:Int32)) (0 : Int32) (0 : Int32) (0 : Int32) (0 : Int32) (0 : Int32) (0 : Int32) (0 : Int32) (fun _ => (0:Int32)) (fun _ => (0:Int32)) (fun _ => (0:Int32)) (fun _ => (0:Int32)))
abbrev z_Mk : SMk := (Mk_mk (fun _ => (0:Int32)) (fun _ => (0:Int32)) (fun _ => (0:Int32)))
abbrev z_Lk : SLk := (Lk_mk (fun _ => (0:Int32)) (0 : Int32) (0 : Int32))
abbrev z_Ck : SCk := (Ck_mk (fun _ => (0:Int32)) (fun _ => (0:Int32)) (fun _ => (0:Int32)) (0 : Int32) ((-1:Int32) : Int32) ((-1:Int32) : Int32))
abbrev z_Jd : SJd := (Jd_mk (fun _ => (0:Int64)) (0 : Int32) (0 : Int32) (0 : Int32) (0 : Int32))
abbrev z_Ld : SLd := (Ld_mk (fun _ => (0:Int64)) (fun _ => (0:Int64)))
abbrev z_Pr : SPr := (Pr_mk (fun _ => (0:Int32)) (fun _ => (0:Int32)) (0 : Int32))
abbrev z_Ni : SNI := (NI_mk (0 : Int32) (0 : Int32) ((-1:Int32) : Int32) (fun _ => (0:Int32)))
abbrev z_Np : SNP := (NP_mk (fun _ => (0:Int32)) (fun _ => (0:Int32)) (fun _ => (0:Int32)) (fun _ => (0:Int32)) (fun _ => (0:Int32)) (fun _ => (0:Int32)) (fun _ => (0:Int32)) (fun _ => (0:Int32)) (fun _ => (0:Int32)) (fun _ => (0:Int32)) (0 : Int32) (0 : Int32) (0 : Int32) (0 : Int32) (0 : Int32) (0 : Int32))
abbrev z_No : SNO := (NO_mk (fun _ => (0:Int32)) (fun _ => (0:Int32)) (fun _ => (0:Int32)) (0 : Int32))
abbrev z_Nx : SNX := (NX_mk (fun _ => (0:Int32)) (fun _ => (0:Int32)) (fun _ => (0:Int32)) (fun _ => (0:Int32)) (0 : Int32) (0 : Int32))
abbrev z_Nf : SNF := (NF_mk (0 : Int32) (0 : Int32) (0 : Int32) ((-1:Int32) : Int32))
abbrev z_Na : SNA := (NA_mk (0 : Int32) (fun _ => (0:Int32)) (fun _ => (0:Int32)) (fun _ => (0:Int32)) (fun _ => (0:Int32)) (fun _ => (0:Int32)))
abbrev z_Nh : SNH := (NH_mk (fun _ => (0:Int32)) (fun _ => (0:Int32)) (fun _ => (0:Int32)) (0 : Int32) (fun _ => (0:Int32)) (fun _ => (0:Int32)))
abbrev z_Nq : SNQ := (NQ_mk (fun _ => (0:Int32)) (fun _ => (0:Int32)) (0 : Int32))
abbrev z_Nj : SNJ := (NJ_mk (0 : Int32) (0 : Int32) (0 : Int32) (0 : Int32) (0 : Int64))
abbrev z_M0 : SMT := (MT_mk (fun _ => (0:Int32)) (fun _ => (0:Int32)) (fun _ => (0:Int32)) (fun _ => (0:Int32)) (fun _ => (0:Int32)) (fun _ => (0:Int32)) (fun _ => (0:Int32)) (fun _ => (0:Int32)) (fun _ => (0:Int32)) (fun _ => (0:Int32)) (fun _ => (0:Int32)) (fun _ => (0:Int32)) (fun _ => (0:Int32)) (0 : Int32) (0 : Int32) (0 : Int32) (0 : Int32) (0 : Int32) (0 : Int32) (fun _ => (0:Int32)))
abbrev z_M1 : SMT := (MT_mk (fun _ => (0:Int32)) (fun _ => (0:Int32)) (fun _ => (0:Int32)) (fun _ => (0:Int32)) (fun _ => (0:Int32)) (fun _ => (0:Int32)) (fun _ => (0:Int32)) (fun _ => (0:Int32)) (fun _ => (0:Int32)) (fun _ => (0:Int32)) (fun _ => (0:Int32)) (fun _ => (0:Int32)) (fun _ => (0:Int32)) (0 : Int32) (0 : Int32) (0 : Int32) (0 : Int32) (0 : Int32) (0 : Int32) (fun _ => (0:Int32)))
theorem bn {lo hi : Int32} (a : lo ≤ 0) (b : 0 ≤ hi) : o_bn lo hi (fun _ => (0:Int32)) := fun _ => ⟨a, b⟩
theorem gt_M0 : GT z_M0 := by
  refine ⟨⟨(show (0:Int32) ≤ 0 by decide), (show (0:Int32) ≤ 1000 by decide), (show (0:Int32) ≤ 0 by decide), (show (0:Int32) ≤ 8192 by decide), (show (0:Int32) ≤ 0 by decide), (show (0:Int32) ≤ 8300 by decide), (show (0:Int32) ≤ 0 by decide), (show (0:Int32) ≤ 4000 by decide), (show (0:Int32) ≤ 0 by decide), (show (0:Int32) ≤ 8192 by decide), (show (0:Int32) ≤ 0 by decide)⟩, fun x x0 x1 => absurd x0 (Int32.not_le.mpr x1), bn (show (0:Int32) ≤ 0 by decide) (show (0:Int32) ≤ 9 by decide), ⟨show (0:Int) ≤ (0:Int32).toInt by decide, show (0:Int32).toInt ≤ (8192:Int) by decide⟩, fun i hi => absurd hi (Nat.not_lt_zero i)⟩
theorem gt_M1 : GT z_M1 := by
  refine ⟨⟨(show (0:Int32) ≤ 0 by decide), (show (0:Int32) ≤ 1000 by decide), (show (0:Int32) ≤ 0 by decide), (show (0:Int32) ≤ 8192 by decide), (show (0:Int32) ≤ 0 by decide), (show (0:Int32) ≤ 8300 by decide), (show (0:Int32) ≤ 0 by decide), (show (0:Int32) ≤ 4000 by decide), (show (0:Int32) ≤ 0 by decide), (show (0:Int32) ≤ 8192 by decide), (show (0:Int32) ≤ 0 by decide)⟩, fun x x0 x1 => absurd x0 (Int32.not_le.mpr x1), bn (show (0:Int32) ≤ 0 by decide) (show (0:Int32) ≤ 9 by decide), ⟨show (0:Int) ≤ (0:Int32).toInt by decide, show (0:Int32).toInt ≤ (8192:Int) by decide⟩, fun i hi => absurd hi (Nat.not_lt_zero i)⟩
theorem pp_zero : PInv z_Sj z_T0 z_T1 z_Rd z_Pg z_Pt z_Mk z_Lk z_Ck z_Jd z_Ld z_Pr 12 z_Ni z_Np z_No z_Nx z_Nf z_Na z_Nh z_Nq z_Nj z_M0 z_M1 0 := by
  have tx0 : I_Tx z_T0 := ⟨(show (0:Int32) ≤ 0 by decide), (show (0:Int32) ≤ 1000 by decide), (show (0:Int32) ≤ 0 by decide), (show (0:Int32) ≤ 8192 by decide), bn (show (0:Int32) ≤ 0 by decide) (show (0:Int32) ≤ 8192 by decide), bn (show (-8192:Int32) ≤ 0 by decide) (show (0:Int32) ≤ 8192 by decide), bn (show (-1:Int32) ≤ 0 by decide) (show (0:Int32) ≤ 1114111 by decide)⟩
  have tx1 : I_Tx z_T1 := ⟨(show (0:Int32) ≤ 0 by decide), (show (0:Int32) ≤ 1000 by decide), (show (0:Int32) ≤ 0 by decide), (show (0:Int32) ≤ 8192 by decide), bn (show (0:Int32) ≤ 0 by decide) (show (0:Int32) ≤ 8192 by decide), bn (show (-8192:Int32) ≤ 0 by decide) (show (0:Int32) ≤ 8192 by decide), bn (show (-1:Int32) ≤ 0 by decide) (show (0:Int32) ≤ 1114111 by decide)⟩
  have rd : I_Rd z_Rd := ⟨(show (0:Int32) ≤ 0 by decide), (show (0:Int32) ≤ 2050 by decide)⟩
  have pg : I_Pg z_Pg := ⟨(show (0:Int32) ≤ 0 by decide), (show (0:Int32) ≤ 1048576 by decide), (show (0:Int32) ≤ 0 by decide), (show (0:Int32) ≤ 8000 by decide), (show (0:Int32) ≤ 0 by decide), (show (0:Int32) ≤ 1300 by decide), (show (0:Int32) ≤ 0 by decide), (show (0:Int32) ≤ 1300 by decide), bn (show (0:Int32) ≤ 0 by decide) (show (0:Int32) ≤ 1299 by decide), bn (show (-2147483648:Int32) ≤ 0 by decide) (show (0:Int32) ≤ 1073741824 by decide), bn (show (-2147483648:Int32) ≤ 0 by decide) (show (0:Int32) ≤ 8388607 by decide)⟩
  have pt : I_Pt z_Pt := ⟨(show (0:Int32) ≤ 4000 by decide), (show (0:Int32) ≤ 0 by decide), (show (0:Int32) ≤ 4000 by decide), (show (0:Int32) ≤ 0 by decide), (show (0:Int32) ≤ 16777216 by decide), (show (0:Int32) ≤ 0 by decide), (show (0:Int32) ≤ 30 by decide), bn (show (-2147483648:Int32) ≤ 0 by decide) (show (0:Int32) ≤ 8388607 by decide), bn (show (0:Int32) ≤ 0 by decide) (show (0:Int32) ≤ 1048576 by decide), bn (show (0:Int32) ≤ 0 by decide) (show (0:Int32) ≤ 1048576 by decide), bn (show (-2147483648:Int32) ≤ 0 by decide) (show (0:Int32) ≤ 1073741824 by decide)⟩
  have lk : I_Lk z_Lk := ⟨(show (0:Int32) ≤ 0 by decide), (show (0:Int32) ≤ 4000 by decide)⟩
  have ck : I_Ck z_Ck := ⟨(show (0:Int32) ≤ 0 by decide), (show (0:Int32) ≤ 1000 by decide)⟩
  have pr : I_Pr z_Pr := ⟨(show (0:Int32) ≤ 0 by decide), (show (0:Int32) ≤ 300 by decide)⟩
  have jd : I_Jd z_Jd := Or.inl rfl
  have ni : I_NI z_Ni := ⟨(show (0:Int32) ≤ 0 by decide), (show (0:Int32) ≤ 8200 by decide)⟩
  have np : I_NP z_Np := ⟨(show (0:Int32) ≤ 0 by decide), (show (0:Int32) ≤ 4001 by decide), (show (0:Int32) ≤ 4000 by decide), (show (0:Int32) ≤ 0 by decide), (show (0:Int32) ≤ 15000 by decide), (show (0:Int32) ≤ 0 by decide), (show (0:Int32) ≤ 0 by decide), (show (0:Int32) ≤ 0 by decide), (show (0:Int32) ≤ 6 * 0 by decide), bn (show (0:Int32) ≤ 0 by decide) (show (0:Int32) ≤ 48000 by decide), bn (show (0:Int32) ≤ 0 by decide) (show (0:Int32) ≤ 48000 by decide)⟩
  have nq : I_NQ z_Nq := ⟨(show (0:Int32) ≤ 0 by decide), (show (0:Int32) ≤ 300 by decide)⟩
  exact ⟨⟨tx0, tx1, rd, pg, pt, lk, ck, pr, jd⟩, ⟨ni, rfl⟩, np, fun c => absurd rfl c, nq, gt_M0, gt_M1⟩
