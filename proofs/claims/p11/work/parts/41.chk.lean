/-! The reference's check: decode, part, leads -/
def ncn (f : Nat → Int32) : Nat → Nat
  | 0 => 0
  | k + 1 => ncn f k + (if 128 ≤ f k ∧ f k ≤ 191 then 0 else 1)
theorem ncn_upd {f : Nat → Int32} {j : Nat} {v : Int32} : ∀ K, K ≤ j → ncn (upd f j v) K = ncn f K := by
  intro K
  induction K with
  | zero => intro _; rfl
  | succ K ih =>
    intro h
    show ncn (upd f j v) K + _ = ncn f K + _
    rw [ih (by omega), o_updN (show K ≠ j by omega)]
theorem ncn_one {f : Nat → Int32} {j : Nat} {v : Int32} : ncn (upd f j v) (j + 1) ≤ ncn f j + 1 := by
  show ncn (upd f j v) j + _ ≤ _
  rw [ncn_upd j (Nat.le_refl _)]
  split <;> omega
theorem ncn_con {f : Nat → Int32} {j : Nat} {v : Int32} (h0 : 128 ≤ v) (h1 : v ≤ 191) : ncn (upd f j v) (j + 1) = ncn f j := by
  show ncn (upd f j v) j + _ = _
  rw [ncn_upd j (Nat.le_refl _), o_updE, if_pos ⟨h0, h1⟩]
  rfl
theorem ncn_mono {f : Nat → Int32} {a : Nat} : ∀ b, a ≤ b → ncn f a ≤ ncn f b := by
  intro b
  induction b with
  | zero => intro h; rw [Nat.le_zero.mp h]; exact Nat.le_refl _
  | succ b ih =>
    intro h
    by_cases e : a = b + 1
    · rw [e]; exact Nat.le_refl _
    · exact Nat.le_trans (ih (by omega)) (Nat.le_add_right _ _)
theorem o_con {x : Int32} : 128 ≤ (128:Int32) ||| (x &&& 63) ∧ (128:Int32) ||| (x &&& 63) ≤ 191 := by
  have t : (x.toBitVec &&& (63:Int32).toBitVec).toNat ≤ 63 := by
    rw [BitVec.toNat_and]
    exact Nat.and_le_right
  have key : ∀ k, k < 64 → 128 ≤ (128:Int32) ||| Int32.ofNat k ∧ (128:Int32) ||| Int32.ofNat k ≤ 191 := by decide +kernel
  have q : Int32.ofNat (x &&& 63).toBitVec.toNat = x &&& 63 := by
    apply Int32.toBitVec_inj.mp
    show BitVec.ofNat 32 (x &&& 63).toBitVec.toNat = _
    rw [BitVec.ofNat_toNat]
    exact BitVec.setWidth_eq _
  have := key (x &&& 63).toBitVec.toNat (Nat.lt_succ_of_le t)
  rwa [q] at this
/-- n octets of at most k letters -/
def OC (f : Nat → Int32) (n : Int32) (k : Int) : Prop := 0 ≤ n ∧ n.toInt ≤ 4 * k ∧ (ncn f (gi n) : Int) ≤ k ∧ k ≤ 4000
theorem OC_put {f : Nat → Int32} {n v : Int32} {k : Int} (h : OC f n k) (hk : k + 1 ≤ 4000) {w : Int32} (ew : w = n + 1) : o_in n 16004 = true ∧ 0 ≤ w ∧ w.toInt = n.toInt + 1 ∧ gi w = gi n + 1 ∧ (ncn (upd f (gi n) v) (gi w) : Int) ≤ k + 1 := by
  obtain ⟨a1, a2, a3, a4⟩ := h
  subst ew
  obtain ⟨p1, p2, p3⟩ := i32p (n := n) (by omega) a1
  have g1 := gi_tnc a1
  have g2 := gi_tnc p2
  have ge : gi (n + 1) = gi n + 1 := by clear a3; omega
  refine ⟨o_inM (m := 16004) rfl a1 (i32lt (k := 16004) rfl (by omega)), p2, p1, ge, ?_⟩
  rw [ge]
  have := ncn_one (f := f) (j := gi n) (v := v)
  omega
theorem OC_con {f : Nat → Int32} {n v : Int32} {k : Int} (a1 : 0 ≤ n) (a2 : n.toInt ≤ 16003) (a3 : (ncn f (gi n) : Int) ≤ k) (h0 : 128 ≤ v ∧ v ≤ 191) {w : Int32} (ew : w = n + 1) : o_in n 16004 = true ∧ 0 ≤ w ∧ w.toInt = n.toInt + 1 ∧ (ncn (upd f (gi n) v) (gi w) : Int) ≤ k := by
  subst ew
  obtain ⟨p1, p2, p3⟩ := i32p (n := n) (by omega) a1
  have g1 := gi_tnc a1
  have g2 := gi_tnc p2
  have ge : gi (n + 1) = gi n + 1 := by clear a3; omega
  refine ⟨o_inM (m := 16004) rfl a1 (i32lt (k := 16004) rfl (by omega)), p2, p1, ?_⟩
  rw [ge, ncn_con h0.1 h0.2]
  exact a3
def DI (x1 x2 : Int32) (z : Int32 × Int32 × SNH) : Prop := x1 ≤ z.2.1 ∧ OC (NH_octetRow z.2.2) z.1 (z.2.1.toInt - x1.toInt)
def dmu (z : Int32 × Int32 × SNH) : Nat := o_mu z.2.1
theorem s_j159 {n : Nat} {x1 x2 n0 k0 c : Int32} {M0 : SMT} {Nh z2 : SNH} (hk0 : x1 ≤ k0) (hk1 : k0 < x2) (hx1 : 0 ≤ x1) (hx2 : x2 ≤ 4000) (h : OC (NH_octetRow Nh) n0 (k0.toInt - x1.toInt)) : o_ok (m_MM_decode_j159 n x2 n0 k0 c M0 Nh) (fun q => (q.1 = 0 → DI x1 x2 q.2 ∧ dmu q.2 < dmu (n0, k0, z2)) ∧ (q.1 ≠ 0 → DI x1 x2 q.2)) := by
  have a0 := Int32.le_iff_toInt_le.mp hk0
  have b0 := Int32.le_iff_toInt_le.mp hx1
  have c0 := Int32.lt_iff_toInt_lt.mp hk1
  have d0 := Int32.le_iff_toInt_le.mp hx2
  have z0 : (0 : Int32).toInt = 0 := rfl
  have z4 : (4000 : Int32).toInt = 4000 := rfl
  rw [z0] at b0
  rw [z4] at d0
  obtain ⟨p1, p2, p3⟩ := i32p (n := k0) (by omega) (Int32.le_trans hx1 hk0)
  have fin : ∀ (w : Int32) (u : Int32) (Nh' : SNH), u = k0 + 1 → 0 ≤ w → w.toInt ≤ 4 * (k0.toInt - x1.toInt + 1) → (ncn (NH_octetRow Nh') (gi w) : Int) ≤ k0.toInt - x1.toInt + 1 → (((0, w, u, Nh') : Nat × Int32 × Int32 × SNH).1 = 0 → DI x1 x2 (w, u, Nh') ∧ dmu (w, u, Nh') < dmu (n0, k0, z2)) ∧ (((0, w, u, Nh') : Nat × Int32 × Int32 × SNH).1 ≠ 0 → DI x1 x2 (w, u, Nh')) := by
    intro w u Nh' eu w0 w1 w2
    subst eu
    refine ⟨fun _ => ⟨⟨?_, w0, ?_, ?_, ?_⟩, o_muL p3⟩, fun e => absurd rfl e⟩
    · show x1 ≤ k0 + 1
      exact Int32.le_trans hk0 (Int32.le_of_lt p3)
    · show w.toInt ≤ 4 * ((k0 + 1).toInt - x1.toInt)
      omega
    · show (ncn (NH_octetRow Nh') (gi w) : Int) ≤ (k0 + 1).toInt - x1.toInt
      omega
    · show (k0 + 1).toInt - x1.toInt ≤ 4000
      omega
  have h2 := h.2.1
  unfold m_MM_decode_j159
  refine o_okI (fun _ => o_okI (fun _ => o_okI (fun _ => ?_) (fun _ => ?_)) (fun _ => ?_)) (fun _ => ?_)
  · refine o_okN (fun w1 e1 => ?_)
    obtain ⟨g1, q1, q2, _, q3⟩ := OC_put (v := (240:Int32) ||| (c >>> ((18:Int32) &&& 31))) h (by omega) e1
    refine o_okG g1 (o_okN (fun w2 e2 => ?_))
    obtain ⟨g2, r1, r2, r3⟩ := OC_con (v := (128:Int32) ||| ((c >>> ((12:Int32) &&& 31)) &&& (63:Int32))) q1 (by omega) q3 o_con e2
    refine o_okG g2 (o_okN (fun w3 e3 => ?_))
    obtain ⟨g3, s1, s2, s3⟩ := OC_con (v := (128:Int32) ||| ((c >>> ((6:Int32) &&& 31)) &&& (63:Int32))) r1 (by omega) r3 o_con e3
    refine o_okG g3 (o_okN (fun w4 e4 => ?_))
    obtain ⟨g4, t1, t2, t3⟩ := OC_con (v := (128:Int32) ||| (c &&& (63:Int32))) s1 (by omega) s3 o_con e4
    clear e1 e2 e3 e4
    exact o_okG g4 (o_okN (fun u eu => o_okS (fin w4 u _ eu t1 (by omega) t3)))
  · refine o_okN (fun w1 e1 => ?_)
    obtain ⟨g1, q1, q2, _, q3⟩ := OC_put (v := (224:Int32) ||| (c >>> ((12:Int32) &&& 31))) h (by omega) e1
    refine o_okG g1 (o_okN (fun w2 e2 => ?_))
    obtain ⟨g2, r1, r2, r3⟩ := OC_con (v := (128:Int32) ||| ((c >>> ((6:Int32) &&& 31)) &&& (63:Int32))) q1 (by omega) q3 o_con e2
    refine o_okG g2 (o_okN (fun w3 e3 => ?_))
    obtain ⟨g3, s1, s2, s3⟩ := OC_con (v := (128:Int32) ||| (c &&& (63:Int32))) r1 (by omega) r3 o_con e3
    clear e1 e2 e3
    exact o_okG g3 (o_okN (fun u eu => o_okS (fin w3 u _ eu s1 (by omega) s3)))
  · refine o_okN (fun w1 e1 => ?_)
    obtain ⟨g1, q1, q2, _, q3⟩ := OC_put (v := (192:Int32) ||| (c >>> ((6:Int32) &&& 31))) h (by omega) e1
    refine o_okG g1 (o_okN (fun w2 e2 => ?_))
    obtain ⟨g2, r1, r2, r3⟩ := OC_con (v := (128:Int32) ||| (c &&& (63:Int32))) q1 (by omega) q3 o_con e2
    clear e1 e2
    exact o_okG g2 (o_okN (fun u eu => o_okS (fin w2 u _ eu r1 (by omega) r3)))
  · refine o_okN (fun w1 e1 => ?_)
    obtain ⟨g1, q1, q2, _, q3⟩ := OC_put (v := c) h (by omega) e1
    clear e1
    exact o_okG g1 (o_okN (fun u eu => o_okS (fin w1 u _ eu q1 (by omega) q3)))
theorem s_dec_b5 {n : Nat} {x1 x2 : Int32} {M0 : SMT} {z : Int32 × Int32 × SNH} (hx1 : 0 ≤ x1) (hx2 : x2 ≤ 4000) (hz : DI x1 x2 z) : o_ok (m_MM_decode_b5 n x2 M0 z) (fun q => (q.1 = 0 → DI x1 x2 q.2 ∧ dmu q.2 < dmu z) ∧ (q.1 ≠ 0 → DI x1 x2 q.2)) := by
  obtain ⟨n0, k0, Nh⟩ := z
  obtain ⟨hk0, h⟩ := hz
  have hk0 : x1 ≤ k0 := hk0
  have h : OC (NH_octetRow Nh) n0 (k0.toInt - x1.toInt) := h
  have kk : 0 ≤ k0 := Int32.le_trans hx1 hk0
  unfold m_MM_decode_b5
  refine o_okI (fun _ => o_okS ⟨fun e => absurd e (Nat.succ_ne_zero 0), fun _ => ⟨hk0, h⟩⟩) (fun c => ?_)
  have hk1 : k0 < x2 := Int32.not_le.mp c
  have j159 : ∀ c : Int32, o_ok (m_MM_decode_j159 n x2 n0 k0 c M0 Nh) (fun q => (q.1 = 0 → DI x1 x2 q.2 ∧ dmu q.2 < dmu (n0, k0, Nh)) ∧ (q.1 ≠ 0 → DI x1 x2 q.2)) := fun c => s_j159 hk0 hk1 hx1 hx2 h
  have kl : k0 < 4000 := Int32.lt_of_lt_of_le hk1 hx2
  have g0 : o_in k0 4000 = true := o_inM (m := 4000) rfl kk kl
  refine o_okG g0 (o_okN (fun ch ec => o_okI (fun _ => ?_) (fun _ => j159 ch)))
  refine o_okI (fun _ => j159 ch) (fun c2 => ?_)
  have ar : ∀ k x : Int32, 0 ≤ k → k < 4000 → x ≤ 4000 → ¬ x ≤ k + 2 → 0 ≤ k + 1 ∧ k + 1 < 4000 ∧ 0 ≤ k + 2 ∧ k + 2 < 4000 := by
    clear h hk0 hk1 kk kl g0 j159 hx1 hx2 c c2 ec
    intro k x h1 h2 h3 h4
    refine ⟨?_, ?_, ?_, ?_⟩ <;> grind
  obtain ⟨r1, r2, r3, r4⟩ := ar k0 x2 kk kl hx2 c2
  have g1 : o_in (k0 + 1) 4000 = true := o_inM (m := 4000) rfl r1 r2
  have g2 : o_in (k0 + 2) 4000 = true := o_inM (m := 4000) rfl r3 r4
  refine o_okG g1 ?_
  refine o_okB s_MT_hex ?_
  intro q1 _
  refine o_okI (fun _ => j159 ch) (fun _ => ?_)
  refine o_okG g2 ?_
  refine o_okB s_MT_hex ?_
  intro q2 _
  refine o_okI (fun _ => j159 ch) (fun _ => ?_)
  refine o_okG g1 (o_okI (fun _ => j159 ch) (fun _ => o_okG g2 (o_okI (fun _ => j159 ch) (fun _ => ?_))))
  refine o_okN (fun w ew => ?_)
  refine o_okG g1 ?_
  refine o_okB s_MT_hex ?_
  intro q3 _
  refine o_okG g2 ?_
  refine o_okB s_MT_hex ?_
  intro q4 _
  have a0 := Int32.le_iff_toInt_le.mp hk0
  have b0 := Int32.le_iff_toInt_le.mp hx1
  have c0 := Int32.lt_iff_toInt_lt.mp hk1
  have d0 := Int32.le_iff_toInt_le.mp hx2
  have z0 : (0 : Int32).toInt = 0 := rfl
  have z4 : (4000 : Int32).toInt = 4000 := rfl
  rw [z0] at b0
  rw [z4] at d0
  obtain ⟨g, s1, s2, _, s3⟩ := OC_put (v := ((16:Int32) * q3) + q4) h (by omega) ew
  have h2 := h.2.1
  clear ew
  refine o_okG g (o_okN (fun u eu => o_okN (fun v ev => ?_)))
  have e2 : u.toInt = k0.toInt + 2 := by
    rw [eu]
    show (k0 + 2).toInt = _
    have z2 : (2 : Int32).toInt = 2 := rfl
    rw [Int32.toInt_add, z2]
    apply Int.bmod_eq_of_le <;> omega
  have e3 : v.toInt = u.toInt + 1 := by
    rw [ev]
    refine o_add1 ?_
    rw [Int32.lt_iff_toInt_lt]
    have z : (2147483647 : Int32).toInt = 2147483647 := rfl
    rw [z]; omega
  clear eu ev
  have h4 : u.toInt < x2.toInt := by
    have c2 : ¬ x2 ≤ k0 + 2 := c2
    have c2 := Int32.lt_iff_toInt_lt.mp (Int32.not_le.mp c2)
    have z2 : (2 : Int32).toInt = 2 := rfl
    have e : (k0 + 2).toInt = k0.toInt + 2 := by
      rw [Int32.toInt_add, z2]
      apply Int.bmod_eq_of_le <;> omega
    omega
  refine o_okS ⟨fun _ => ⟨⟨?_, s1, ?_, ?_, ?_⟩, ?_⟩, fun e => absurd rfl e⟩
  · show x1 ≤ v
    rw [Int32.le_iff_toInt_le]; omega
  · show w.toInt ≤ 4 * (v.toInt - x1.toInt)
    omega
  · show (ncn (upd (NH_octetRow Nh) (gi n0) (16 * q3 + q4)) (gi w) : Int) ≤ v.toInt - x1.toInt
    omega
  · show v.toInt - x1.toInt ≤ 4000
    omega
  · show o_mu v < o_mu k0
    refine o_muL ?_
    rw [Int32.lt_iff_toInt_lt]; omega
