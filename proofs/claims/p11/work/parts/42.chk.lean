def DJ (f : Nat → Int32) (x3 : Int32) (z : Int32 × SNH) : Prop := 0 ≤ z.1 ∧ z.1 ≤ x3 ∧ NH_octetRow z.2 = f ∧ 0 ≤ NH_pathSize z.2 ∧ (NH_pathSize z.2).toInt ≤ ncn f (gi z.1)
def ejm (z : Int32 × SNH) : Nat := o_mu z.1
def NHI (h : SNH) : Prop := 0 ≤ NH_pathSize h ∧ NH_pathSize h ≤ 4000
theorem NHI_of {f : Nat → Int32} {x3 : Int32} {z : Int32 × SNH} (h3 : 0 ≤ x3) (hf : (ncn f (gi x3) : Int) ≤ 4000) (h : DJ f x3 z) : NHI z.2 := by
  obtain ⟨a1, a2, a3, a4, a5⟩ := h
  refine ⟨a4, ?_⟩
  have g1 := gi_tnc a1
  have g3 := gi_tnc h3
  have l := Int32.le_iff_toInt_le.mp a2
  have m := ncn_mono (f := f) (a := gi z.1) (gi x3) (by omega)
  rw [Int32.le_iff_toInt_le]
  have z4 : (4000 : Int32).toInt = 4000 := rfl
  rw [z4]; omega
theorem s_b542 {n : Nat} {x3 x4 x6 c : Int32} {M0 : SMT} {Nh : SNH} (hn : o_big ≤ n) (h4 : 0 ≤ x4) (h6 : 0 ≤ x6) (h63 : x6 ≤ 3) (hx : x4 < x3) (hlt : x4 + x6 < x3) (h3 : x3 ≤ 16000) : o_ok (o_lp n (m_MM_decode_b542 n x3 x4 x6 M0 Nh) (c, (1:Int32))) (fun q => q.1 ≠ 0 ∧ True) := by
  refine o_lpR (z := (c, (1:Int32))) (P := fun _ => True) (fun z : Int32 × Int32 => 0 ≤ z.2) (fun z => o_mu z.2) hn o_muB (show (0:Int32) ≤ 1 by decide) (fun z hz => ?_)
  have hz : 0 ≤ z.2 := hz
  unfold m_MM_decode_b542
  refine o_okI (fun _ => o_okS ⟨fun e => absurd e (Nat.succ_ne_zero 1), fun _ => trivial⟩) (fun cc => ?_)
  have cc : z.2 ≤ x6 := Int32.not_lt.mp cc
  have ar : 0 ≤ x4 + z.2 ∧ x4 + z.2 < 16004 ∧ 0 ≤ z.2 + 1 ∧ z.2 < z.2 + 1 := by
    generalize z.2 = v at *
    clear hn
    have a : x4 < 16000 := by grind
    refine ⟨?_, ?_, ?_, ?_⟩ <;> grind
  have g : o_in (x4 + z.2) 16004 = true := o_inM (m := 16004) rfl ar.1 ar.2.1
  refine o_okG g (o_okI (fun _ => o_okG g (o_okN (fun w ew => o_okN (fun u eu => o_okS ⟨fun _ => ⟨?_, ?_⟩, fun e => absurd rfl e⟩)))) (fun _ => o_okS ⟨fun e => absurd e (Nat.succ_ne_zero 0), fun _ => trivial⟩))
  · show 0 ≤ u
    rw [eu]; exact ar.2.2.1
  · show o_mu u < o_mu z.2
    rw [eu]; exact o_muL ar.2.2.2
theorem s_j476 {n : Nat} {x3 x4 x5 y0 : Int32} {M0 : SMT} {Nh z2 : SNH} {f : Nat → Int32} (hn : o_big ≤ n) (hf : (ncn f (gi x3) : Int) ≤ 4000) (h3 : x3 ≤ 16000) (hD : DJ f x3 (x4, Nh)) (hlt4 : x4 < x3) (e5 : x5 = f (gi x4)) (hc : ¬ y0 < 0 → ¬ (128 ≤ x5 ∧ x5 ≤ 191)) (hy : y0 ≤ 3) :
    o_ok (m_MM_decode_j476 n x3 x4 x5 y0 M0 Nh) (fun q => (q.1 = 0 → DJ f x3 q.2 ∧ ejm q.2 < ejm (x4, z2)) ∧ (q.1 ≠ 0 → NHI q.2.2)) := by
  have h30 : 0 ≤ x3 := Int32.le_of_lt (Int32.lt_of_le_of_lt hD.1 hlt4)
  have hN : NHI Nh := NHI_of h30 hf hD
  obtain ⟨a1, a2, a3, a4, a5⟩ := hD
  have a1 : 0 ≤ x4 := a1
  have a3 : NH_octetRow Nh = f := a3
  have a4 : 0 ≤ NH_pathSize Nh := a4
  have a5 : (NH_pathSize Nh).toInt ≤ ncn f (gi x4) := a5
  have ex : ∀ k : Nat, o_ok (some ((k + 1, x4, Nh) : Nat × Int32 × SNH)) (fun q => (q.1 = 0 → DJ f x3 q.2 ∧ ejm q.2 < ejm (x4, z2)) ∧ (q.1 ≠ 0 → NHI q.2.2)) := fun k => o_okS ⟨fun e => absurd e (Nat.succ_ne_zero k), fun _ => hN⟩
  unfold m_MM_decode_j476
  refine o_okI (fun _ => ex 0) (fun c0 => ?_)
  have y00 : 0 ≤ y0 := Int32.not_lt.mp c0
  have nc := hc c0
  refine o_okI (fun hlt => ?_) (fun _ => ex 0)
  have j648 : ∀ c : Int32, o_ok (m_MM_decode_j648 n x3 x4 y0 c M0 Nh) (fun q => (q.1 = 0 → DJ f x3 q.2 ∧ ejm q.2 < ejm (x4, z2)) ∧ (q.1 ≠ 0 → NHI q.2.2)) := by
    intro c
    unfold m_MM_decode_j648
    have n4 := Int32.le_iff_toInt_le.mp hN.2
    have z4 : (4000 : Int32).toInt = 4000 := rfl
    rw [z4] at n4
    obtain ⟨p1, p2, p3⟩ := i32p (n := NH_pathSize Nh) (by omega) a4
    refine o_okG (o_inM (m := 8192) rfl a4 (i32lt (k := 8192) rfl (by omega))) (o_okN (fun w ew => o_okN (fun u eu => ?_)))
    have k3 := Int32.le_iff_toInt_le.mp h3
    have kx := Int32.lt_iff_toInt_lt.mp hlt4
    have ky := Int32.le_iff_toInt_le.mp hy
    have ky0 := Int32.le_iff_toInt_le.mp y00
    have kx0 := Int32.le_iff_toInt_le.mp a1
    have z16 : (16000 : Int32).toInt = 16000 := rfl
    have z3 : (3 : Int32).toInt = 3 := rfl
    have z0 : (0 : Int32).toInt = 0 := rfl
    rw [z16] at k3
    rw [z3] at ky
    rw [z0] at ky0 kx0
    have sw : (x4 + y0).toInt = x4.toInt + y0.toInt := by
      rw [Int32.toInt_add]
      apply Int.bmod_eq_of_le <;> omega
    have hlt' := Int32.lt_iff_toInt_lt.mp hlt
    rw [sw] at hlt'
    have tw : w.toInt = x4.toInt + y0.toInt := by rw [ew]; exact sw
    have tu : u.toInt = w.toInt + 1 := by
      rw [eu]
      refine o_add1 ?_
      rw [Int32.lt_iff_toInt_lt]
      have z : (2147483647 : Int32).toInt = 2147483647 := rfl
      rw [z]; omega
    clear ew eu
    have u0 : 0 ≤ u := by rw [Int32.le_iff_toInt_le, z0]; omega
    have gu := gi_tnc u0
    have g4 := gi_tnc a1
    have step : ncn f (gi x4 + 1) = ncn f (gi x4) + 1 := by
      show ncn f (gi x4) + _ = _
      rw [← e5, if_neg nc]
    have mono := ncn_mono (f := f) (a := gi x4 + 1) (gi u) (by omega)
    refine o_okS ⟨fun _ => ⟨⟨u0, ?_, a3, p2, ?_⟩, ?_⟩, fun e => absurd rfl e⟩
    · show u ≤ x3
      rw [Int32.le_iff_toInt_le]; omega
    · show (NH_pathSize Nh + 1).toInt ≤ (ncn f (gi u) : Int)
      omega
    · show o_mu u < o_mu x4
      refine o_muL ?_
      rw [Int32.lt_iff_toInt_lt]; omega
  have j626 : ∀ c : Int32, o_ok (m_MM_decode_j626 n x3 x4 y0 c M0 Nh) (fun q => (q.1 = 0 → DJ f x3 q.2 ∧ ejm q.2 < ejm (x4, z2)) ∧ (q.1 ≠ 0 → NHI q.2.2)) := by
    intro c
    unfold m_MM_decode_j626
    refine o_okI (fun _ => ?_) (fun _ => j648 c)
    refine o_okB s_MM_in ?_
    intro q _
    exact o_okI (fun _ => ex 2) (fun _ => j648 c)
  have lp : ∀ c : Int32, o_ok (o_lp n (m_MM_decode_b542 n x3 x4 y0 M0 Nh) (c, (1:Int32))) (fun q => q.1 ≠ 0 ∧ True) := fun c => s_b542 hn a1 y00 hy hlt4 hlt h3
  have fin : ∀ q : Nat × Int32 × Int32, o_ok (if q.1 = 1 then some (2, x4, Nh) else if y0 = (2:Int32) then (if q.2.1 < (2048:Int32) then some (3, x4, Nh) else o_bd (m_MM_in q.2.1 (55296:Int32) (57343:Int32)) fun q14 => if q14 = 0 then m_MM_decode_j626 n x3 x4 y0 q.2.1 M0 Nh else some (3, x4, Nh)) else m_MM_decode_j626 n x3 x4 y0 q.2.1 M0 Nh) (fun q => (q.1 = 0 → DJ f x3 q.2 ∧ ejm q.2 < ejm (x4, z2)) ∧ (q.1 ≠ 0 → NHI q.2.2)) := by
    intro q
    refine o_okI (fun _ => ex 1) (fun _ => o_okI (fun _ => o_okI (fun _ => ex 2) (fun _ => ?_)) (fun _ => j626 _))
    refine o_okB s_MM_in ?_
    intro q14 _
    exact o_okI (fun _ => j626 _) (fun _ => ex 2)
  refine o_okI (fun _ => ?_) (fun _ => o_okI (fun _ => o_okN (fun w ew => ?_)) (fun _ => o_okI (fun _ => o_okN (fun w ew => ?_)) (fun _ => o_okN (fun w ew => ?_))))
  · exact o_okB (lp _) (fun q _ => fin q)
  · exact o_okB (lp _) (fun q _ => fin q)
  · exact o_okB (lp _) (fun q _ => fin q)
  · exact o_okB (lp _) (fun q _ => fin q)
theorem s_b388 {n : Nat} {x3 : Int32} {M0 : SMT} {f : Nat → Int32} {z : Int32 × SNH} (hn : o_big ≤ n) (h30 : 0 ≤ x3) (hf : (ncn f (gi x3) : Int) ≤ 4000) (h3 : x3 ≤ 16000) (hD : DJ f x3 z) : o_ok (m_MM_decode_b388 n x3 M0 z) (fun q => (q.1 = 0 → DJ f x3 q.2 ∧ ejm q.2 < ejm z) ∧ (q.1 ≠ 0 → NHI q.2.2)) := by
  obtain ⟨k, Nh⟩ := z
  have hN : NHI Nh := NHI_of h30 hf hD
  have a1 : 0 ≤ k := hD.1
  have a3 : NH_octetRow Nh = f := hD.2.2.1
  unfold m_MM_decode_b388
  refine o_okI (fun _ => o_okS ⟨fun e => absurd e (Nat.succ_ne_zero 3), fun _ => hN⟩) (fun c => ?_)
  have hlt : k < x3 := Int32.not_le.mp c
  refine o_okG (o_inM (m := 16004) rfl a1 (Int32.lt_of_lt_of_le hlt (Int32.le_trans h3 (by decide)))) (o_okN (fun c5 e5 => ?_))
  have e5 : c5 = f (gi k) := by rw [← a3]; exact e5
  have j476 : ∀ y0 : Int32, (¬ y0 < 0 → ¬ (128 ≤ c5 ∧ c5 ≤ 191)) → y0 ≤ 3 → o_ok (m_MM_decode_j476 n x3 k c5 y0 M0 Nh) (fun q => (q.1 = 0 → DJ f x3 q.2 ∧ ejm q.2 < ejm (k, Nh)) ∧ (q.1 ≠ 0 → NHI q.2.2)) := fun y0 h1 h2 => s_j476 hn hf h3 hD hlt e5 h1 h2
  have ar1 : ∀ c : Int32, ¬ c < 194 → ¬ (128 ≤ c ∧ c ≤ 191) := by intro c h; clear hD j476 hN hf; grind
  have ar2 : ∀ c : Int32, ¬ c < 224 → ¬ (128 ≤ c ∧ c ≤ 191) := by intro c h; clear hD j476 hN hf; grind
  have ar3 : ∀ c : Int32, ¬ c < 240 → ¬ (128 ≤ c ∧ c ≤ 191) := by intro c h; clear hD j476 hN hf; grind
  have ar4 : ∀ c : Int32, ¬ (128:Int32) ≤ c → ¬ (128 ≤ c ∧ c ≤ 191) := fun c h h2 => h h2.1
  have j455 : o_ok (m_MM_decode_j455 n x3 k c5 M0 Nh) (fun q => (q.1 = 0 → DJ f x3 q.2 ∧ ejm q.2 < ejm (k, Nh)) ∧ (q.1 ≠ 0 → NHI q.2.2)) := by
    unfold m_MM_decode_j455
    refine o_okI (fun _ => j476 (-1) (fun h => absurd (by decide) h) (by decide)) (fun h => o_okI (fun _ => j476 (-1) (fun h => absurd (by decide) h) (by decide)) (fun _ => j476 3 (fun _ => ar3 _ h) (by decide)))
  have j435 : o_ok (m_MM_decode_j435 n x3 k c5 M0 Nh) (fun q => (q.1 = 0 → DJ f x3 q.2 ∧ ejm q.2 < ejm (k, Nh)) ∧ (q.1 ≠ 0 → NHI q.2.2)) := by
    unfold m_MM_decode_j435
    exact o_okI (fun _ => j455) (fun h => o_okI (fun _ => j455) (fun _ => j476 2 (fun _ => ar2 _ h) (by decide)))
  exact o_okI (fun _ => o_okI (fun _ => j435) (fun h => o_okI (fun _ => j435) (fun _ => j476 1 (fun _ => ar1 _ h) (by decide)))) (fun h => j476 0 (fun _ => ar4 _ h) (by decide))
theorem s_MM_decode {n : Nat} {x1 x2 : Int32} {M0 : SMT} {Nh : SNH} (hn : o_big ≤ n) (hx1 : 0 ≤ x1) (hx12 : x1 ≤ 4000) (hx2 : x2 ≤ 4000) : o_ok (m_MM_decode n x1 x2 M0 Nh) (fun r => NHI r.2) := by
  have b0 := Int32.le_iff_toInt_le.mp hx1
  have c0 := Int32.le_iff_toInt_le.mp hx12
  have z0 : (0 : Int32).toInt = 0 := rfl
  have z4 : (4000 : Int32).toInt = 4000 := rfl
  rw [z0] at b0
  rw [z4] at c0
  have hz : DI x1 x2 ((0:Int32), x1, Nh) := ⟨Int32.le_refl _, show (0:Int32) ≤ 0 by decide, by show (0 : Int32).toInt ≤ 4 * (x1.toInt - x1.toInt); omega, by show (0 : Int) ≤ x1.toInt - x1.toInt; omega, by show x1.toInt - x1.toInt ≤ 4000; omega⟩
  have hb : dmu ((0:Int32), x1, Nh) < o_big := by unfold dmu; exact o_muB
  unfold m_MM_decode
  have st1 : ∀ z, DI x1 x2 z → o_ok (m_MM_decode_b5 n x2 M0 z) (fun q => (q.1 = 0 → DI x1 x2 q.2 ∧ dmu q.2 < dmu z) ∧ (q.1 ≠ 0 → DI x1 x2 q.2)) := fun z hz => s_dec_b5 hx1 hx2 hz
  generalize hf1 : m_MM_decode_b5 n x2 M0 = f1 at st1 ⊢
  refine o_okB (o_lpR (P := fun q => DI x1 x2 q.2) (DI x1 x2) dmu hn hb hz st1) ?_
  intro q5 ⟨_, h5⟩
  obtain ⟨w, k, H⟩ : ∃ w k H, q5.2 = (w, k, H) := ⟨q5.2.1, q5.2.2.1, q5.2.2.2, rfl⟩
  obtain ⟨a1, a2, a3, a4, a5⟩ := h5
  have w3 : q5.2.1 ≤ 16000 := by
    rw [Int32.le_iff_toInt_le]
    have z16 : (16000 : Int32).toInt = 16000 := rfl
    rw [z16]; omega
  have hf : (ncn (NH_octetRow q5.2.2.2) (gi q5.2.1) : Int) ≤ 4000 := Int.le_trans a4 a5
  have st2 : ∀ z, DJ (NH_octetRow q5.2.2.2) q5.2.1 z → o_ok (m_MM_decode_b388 n q5.2.1 M0 z) (fun q => (q.1 = 0 → DJ (NH_octetRow q5.2.2.2) q5.2.1 q.2 ∧ ejm q.2 < ejm z) ∧ (q.1 ≠ 0 → NHI q.2.2)) := fun z hz => s_b388 hn a2 hf w3 hz
  have hz2 : DJ (NH_octetRow q5.2.2.2) q5.2.1 ((0:Int32), (NH_mk (NH_path q5.2.2.2) (NH_route q5.2.2.2) (NH_seen1 q5.2.2.2) (0:Int32) (NH_octetRow q5.2.2.2) (NH_partRow q5.2.2.2))) := ⟨show (0:Int32) ≤ 0 by decide, a2, rfl, show (0:Int32) ≤ 0 by decide, by show (0 : Int32).toInt ≤ _; rw [z0]; exact Int.natCast_nonneg _⟩
  have hb2 : ejm ((0:Int32), (NH_mk (NH_path q5.2.2.2) (NH_route q5.2.2.2) (NH_seen1 q5.2.2.2) (0:Int32) (NH_octetRow q5.2.2.2) (NH_partRow q5.2.2.2))) < o_big := by unfold ejm; exact o_muB
  generalize hf2 : m_MM_decode_b388 n q5.2.1 M0 = f2 at st2 ⊢
  refine o_okB (o_lpR (P := fun q => NHI q.2.2) (DJ (NH_octetRow q5.2.2.2) q5.2.1) ejm hn hb2 hz2 st2) ?_
  intro q ⟨_, hq⟩
  exact o_okI (fun _ => o_okS hq) (fun _ => o_okI (fun _ => o_okS hq) (fun _ => o_okI (fun _ => o_okS hq) (fun _ => o_okS hq)))
