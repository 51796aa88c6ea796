theorem o_kn1 {s : State} {args : Array Value} (hts : ∀ w ∈ o_WS, w.before args s = true) : ∃ D1 : va_G, va_K D1 o_cls [] s := by
  obtain ⟨c0, i0, h0⟩ := u_known (T := F_SJ) (N := 8) hts in_SJ (hts _ k_1_33)
  obtain ⟨c1, i1, h1⟩ := u_known (T := F_Tx) (N := 13) hts in_Tx (hts _ k_1_41)
  obtain ⟨c2, i2, h2⟩ := u_known (T := F_Rd) (N := 6) hts in_Rd (hts _ k_1_89)
  obtain ⟨c3, i3, h3⟩ := u_known (T := F_Pg) (N := 11) hts in_Pg (hts _ k_1_114)
  obtain ⟨c4, i4, h4⟩ := u_known (T := F_Pt) (N := 13) hts in_Pt (hts _ k_1_155)
  obtain ⟨c5, i5, h5⟩ := u_known (T := F_Mk) (N := 4) hts in_Mk (hts _ k_1_201)
  obtain ⟨c6, i6, h6⟩ := u_known (T := F_Lk) (N := 5) hts in_Lk (hts _ k_1_226)
  obtain ⟨c7, i7, h7⟩ := u_known (T := F_Ck) (N := 10) hts in_Ck (hts _ k_1_220)
  obtain ⟨c8, i8, h8⟩ := u_known (T := F_Jd) (N := 12) hts in_Jd (hts _ k_2_39)
  obtain ⟨c9, i9, h9⟩ := u_known (T := F_Ld) (N := 2) hts in_Ld (hts _ k_2_45)
  obtain ⟨c10, i10, h10⟩ := u_known (T := F_Pr) (N := 3) hts in_Pr (hts _ k_2_59)
  refine ⟨(fun n => ([c0, c1, c2, c3, c4, c5, c6, c7, c8, c9, c10] : List ClassId).getD n 0, fun n => ([i0, i1, i2, i3, i4, i5, i6, i7, i8, i9, i10] : List (Nat → Nat)).getD n (fun _ => 0)), ⟨fun c q hq => ?_, fun k q h => by cases h⟩⟩
  match c, hq with
  | 0, hq => cases hq; exact h0
  | 1, hq => cases hq; exact h1
  | 2, hq => cases hq; exact h2
  | 3, hq => cases hq; exact h3
  | 4, hq => cases hq; exact h4
  | 5, hq => cases hq; exact h5
  | 6, hq => cases hq; exact h6
  | 7, hq => cases hq; exact h7
  | 8, hq => cases hq; exact h8
  | 9, hq => cases hq; exact h9
  | 10, hq => cases hq; exact h10
  | n + 11, hq => cases hq
