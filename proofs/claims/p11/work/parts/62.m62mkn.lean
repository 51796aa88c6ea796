theorem o_kn2 {s : State} {args : Array Value} (hts : ∀ w ∈ o_WS, w.before args s = true) : ∃ D1 : va_G, va_K D1 m_cls [] s := by
  obtain ⟨c0, i0, h0⟩ := u_known (T := F_MM) (N := 59) hts in_MM (hts _ k_7_89)
  obtain ⟨c1, i1, h1⟩ := u_known (T := F_MT) (N := 20) hts in_MT (hts _ k_7_95)
  refine ⟨(fun n => ([c0, c1] : List ClassId).getD n 0, fun n => ([i0, i1] : List (Nat → Nat)).getD n (fun _ => 0)), ⟨fun c q hq => ?_, fun k q h => by cases h⟩⟩
  match c, hq with
  | 0, hq => cases hq; exact h0
  | 1, hq => cases hq; exact h1
  | n + 2, hq => cases hq
