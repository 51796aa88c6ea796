theorem CL_gt {X : Nat → Int32} : ∀ (L : List Int32) (k b : Int32), CL X L k → (k = -1 ∨ b < k) → (∀ y ∈ L, X (gi y) = -1 ∨ y < X (gi y)) → ∀ u ∈ L, b < u := by
  intro L
  induction L with
  | nil => intro k b _ _ _ u h; cases h
  | cons y L ih =>
    intro k b h hk hx u hu
    obtain ⟨e, k0, hL⟩ := h
    have hb : b < k := by
      rcases hk with h | h
      · rw [h] at k0; exact absurd k0 (by decide)
      · exact h
    rcases List.mem_cons.mp hu with h | h
    · rw [h, e]; exact hb
    · have hy := hx y List.mem_cons_self
      rw [e] at hy
      refine ih _ b hL ?_ (fun w hw => hx w (List.mem_cons_of_mem _ hw)) u h
      rcases hy with h | h
      · exact Or.inl h
      · exact Or.inr (Int32.lt_trans hb h)
theorem CL_nodup {X : Nat → Int32} : ∀ (L : List Int32) (k : Int32), CL X L k → (∀ y ∈ L, X (gi y) = -1 ∨ y < X (gi y)) → ∀ (C : List Int32) (w : Int32) (D : List Int32), L = C ++ w :: D → w ∉ D := by
  intro L
  induction L with
  | nil => intro k _ _ C w D e; cases C <;> cases e
  | cons y L ih =>
    intro k h hx C w D e
    obtain ⟨ey, k0, hL⟩ := h
    cases C with
    | nil =>
      have e : y :: L = w :: D := e
      injection e with e1 e2
      subst e1
      subst e2
      intro hw
      exact i32irr (CL_gt _ _ y hL (by have := hx y List.mem_cons_self; rwa [ey] at this ⊢) (fun u hu => hx u (List.mem_cons_of_mem _ hu)) y hw)
    | cons c C =>
      have e : y :: L = c :: (C ++ w :: D) := e
      injection e with e1 e2
      exact ih _ hL (fun u hu => hx u (List.mem_cons_of_mem _ hu)) C w D e2
theorem split_uq : ∀ (A A' : List Int32) {z : Int32} {B B' : List Int32}, A ++ z :: B = A' ++ z :: B' → (∀ (C : List Int32) (w : Int32) (D : List Int32), A ++ z :: B = C ++ w :: D → w ∉ D) → A = A' := by
  intro A
  induction A with
  | nil =>
    intro A' z B B' e hU
    cases A' with
    | nil => rfl
    | cons a A' =>
      have e : z :: B = a :: (A' ++ z :: B') := e
      injection e with e1 e2
      exact absurd (show z ∈ B by rw [e2]; exact List.mem_append_right _ List.mem_cons_self) (hU [] z B rfl)
  | cons u A ih =>
    intro A' z B B' e hU
    cases A' with
    | nil =>
      have e : u :: (A ++ z :: B) = z :: B' := e
      injection e with e1 e2
      exact absurd (show u ∈ A ++ z :: B by rw [e1]; exact List.mem_append_right _ List.mem_cons_self) (hU [] u (A ++ z :: B) rfl)
    | cons a A' =>
      have e : u :: (A ++ z :: B) = a :: (A' ++ z :: B') := e
      injection e with e1 e2
      rw [e1, ih A' e2 (fun C w D h => hU (u :: C) w D (by show u :: (A ++ z :: B) = u :: (C ++ w :: D); rw [h]))]
theorem tnext {s : SMT} (hT : T_MT s) {y : Int32} (y0 : 0 ≤ y) (y1 : y < MT_values s) : MT_next s (gi y) = -1 ∨ y < MT_next s (gi y) := by
  rcases (hT y y0 y1).2.2.1 with e | ⟨d1, d2⟩
  · exact Or.inl e
  · exact Or.inr d1
theorem s_MM_strings {n : Nat} {x1 : Int32} {M0 : SMT} {Nf : SNF} (hn : o_big ≤ n) (hI : I_MT M0) (hT : T_MT M0) (x0 : 0 ≤ x1) (xv : x1 < MT_values M0) : o_ok (m_MM_strings n x1 M0 Nf) (fun r => ((r = Nf ∧ ASTR M0 x1) ∨ NF_faultKind r ≠ 0) ∧ NF_checked r = NF_checked Nf) := by
  have gx := o_inV hI x0 xv
  obtain ⟨L, c1, c2, c3⟩ := tchain hI hT x0 xv
  have ft : ∀ v : Int32, o_ok (o_bd (m_MM_fault 1 v Nf) fun q => some q) (fun r => ((r = Nf ∧ ASTR M0 x1) ∨ NF_faultKind r ≠ 0) ∧ NF_checked r = NF_checked Nf) := by
    intro v
    refine o_okB (s_MM_fault (by decide)) ?_
    intro q ⟨f1, f2⟩
    exact o_okS ⟨Or.inr f1, f2⟩
  unfold m_MM_strings
  refine o_okG gx (o_okI (fun hk => o_okG gx (o_okN (fun w ew => ?_))) (fun _ => ft x1))
  have ew : w = MT_first M0 (gi x1) := ew
  refine o_okB (cl_lp (P := fun q => q.1 = 1 ∨ q.1 = 2 ∨ ∀ y ∈ L, MT_kind M0 (gi y) = 4) (V := fun z => z) (fun L2 z => ∃ A, L = A ++ L2 ∧ ∀ y ∈ A, MT_kind M0 (gi y) = 4) ?_ ?_ L n w (Nat.lt_of_le_of_lt c2 (Nat.lt_of_lt_of_le (by decide) hn)) (by rw [ew]; exact c1) ⟨[], rfl, fun y h => by cases h⟩) ?_
  · intro L2 z hJ hL e
    rw [e] at hL hJ
    have hz : z = -1 := hL
    subst hz
    obtain ⟨A, hA, hA2⟩ := hJ
    rw [List.append_nil] at hA
    unfold m_MM_strings_b30
    refine o_okI (fun _ => o_okS ⟨Nat.succ_ne_zero 2, Or.inr (Or.inr ?_)⟩) (fun c => absurd (show (-1:Int32) < 0 by decide) c)
    rw [hA]; exact hA2
  · intro y L2 z hJ ey y0 _
    obtain ⟨A, hA, hA2⟩ := hJ
    have hy : y ∈ L := by rw [hA]; exact List.mem_append_right _ List.mem_cons_self
    obtain ⟨v2, v0, v1⟩ := c3 y hy
    have ey : z = y := ey
    subst ey
    have gz := o_inV hI v0 v1
    unfold m_MM_strings_b30
    refine o_okI (fun c => absurd v0 (by have c : z < 0 := c; exact Int32.not_le.mpr c)) (fun _ => ?_)
    refine o_okG gz (o_okI (fun k4 => ?_) (fun _ => o_okS ⟨fun e => absurd e (Nat.succ_ne_zero 0), fun _ => Or.inl rfl⟩))
    have k4 : MT_kind M0 (gi z) = 4 := k4
    refine o_okG gx (o_okN (fun k ek => ?_))
    have ek : k = MT_first M0 (gi x1) := ek
    have pre : ∀ (A' B' : List Int32), L = A' ++ z :: B' → ∀ y ∈ A', MT_kind M0 (gi y) = 4 := by
      intro A' B' e
      have hu := split_uq A A' (hA.symm.trans e) (fun C w D h => CL_nodup L _ c1 (fun u hu => tnext hT (c3 u hu).2.1 (c3 u hu).2.2) C w D (hA.trans h))
      rw [← hu]; exact hA2
    refine o_okB (s_strings_b64 (L := L) hn hI hT k4 (by rw [ek]; exact c1) c2 (fun u hu => (c3 u hu).2) hy pre) ?_
    intro q2 _
    refine o_okI (fun _ => o_okS ⟨fun e => absurd e (Nat.succ_ne_zero 1), fun _ => Or.inr (Or.inl rfl)⟩) (fun _ => ?_)
    refine o_okG gz (o_okN (fun u eu => o_okS ⟨fun _ => ⟨⟨A ++ [z], by rw [hA, List.append_assoc]; rfl, fun w hw => ?_⟩, eu⟩, fun e => absurd rfl e⟩))
    rcases List.mem_append.mp hw with h | h
    · exact hA2 w h
    · rcases List.mem_cons.mp h with h | h
      · rw [h]; exact k4
      · cases h
  · intro q3 ⟨_, h3⟩
    refine o_okI (fun _ => ft _) (fun n1 => o_okI (fun _ => ft _) (fun n2 => o_okS ⟨Or.inl ⟨rfl, hk, L, c1, ?_⟩, rfl⟩))
    rcases h3 with h | h | h
    · exact absurd h n1
    · exact absurd h n2
    · exact h
/-- a string is the same as itself -/
theorem s_same_self {n : Nat} {x1 : Int32} {a : SMT} (hn : o_big ≤ n) (hI : I_MT a) (hT : T_MT a) (p0 : 0 ≤ x1) (p1 : x1 < MT_values a) (p2 : MT_kind a (gi x1) = 4) : o_ok (m_MT_same n x1 x1 a a) (fun r => r = 1) := by
  obtain ⟨f1, f2, f3, f4⟩ := (hT x1 p0 p1).2.2.2.2.1 p2
  have i := sc_MT hI
  have g := o_inV hI p0 p1
  have f5 : MT_from a (gi x1) ≤ 4000 := Int32.le_trans f3 i.2.2.2.2.2.2.2.1
  have f6 : MT_many a (gi x1) ≤ 4000 - MT_from a (gi x1) := by
    have f4 : MT_many a (gi x1) ≤ MT_used a - MT_from a (gi x1) := f4
    have f3 : MT_from a (gi x1) ≤ MT_used a := f3
    have f1 : 0 ≤ MT_from a (gi x1) := f1
    have u := i.2.2.2.2.2.2.2.1
    have u0 := i.2.2.2.2.2.2.1
    clear hI hT i g
    generalize MT_from a (gi x1) = f at *
    generalize MT_many a (gi x1) = m at *
    grind
  have f1 : 0 ≤ MT_from a (gi x1) := f1
  unfold m_MT_same
  refine o_okG g (o_okG g (o_okI (fun _ => ?_) (fun c => absurd rfl c)))
  refine o_okB (o_lpR (P := fun q => q.1 ≠ 1) (fun z : Int32 => 0 ≤ z) o_mu hn o_muB (show (0:Int32) ≤ 0 by decide) (fun z hz => ?_)) ?_
  · unfold m_MT_same_b20
    refine o_okG g (o_okI (fun _ => o_okS ⟨fun e => absurd e (Nat.succ_ne_zero 1), fun _ => show (2:Nat) ≠ 1 by decide⟩) (fun c => ?_))
    have c : z < MT_many a (gi x1) := Int32.not_le.mp c
    have ar : ∀ f m : Int32, 0 ≤ f → f ≤ 4000 → m ≤ 4000 - f → 0 ≤ z → z < m → 0 ≤ f + z ∧ f + z < 4000 ∧ 0 ≤ z + 1 ∧ z < z + 1 := by
      clear hI hT i g c f1 f2 f3 f4 f5 f6
      intro f m h1 h2 h3 h4 h5
      refine ⟨?_, ?_, ?_, ?_⟩ <;> grind
    obtain ⟨r1, r2, r3, r4⟩ := ar _ _ f1 f5 f6 hz c
    have gc : o_in (MT_from a (gi x1) + z) 4000 = true := o_inM (m := 4000) rfl r1 r2
    refine o_okG g (o_okG gc (o_okG g (o_okG gc (o_okI (fun _ => o_okN (fun w ew => o_okS ⟨fun _ => ⟨?_, ?_⟩, fun e => absurd rfl e⟩)) (fun c => absurd rfl c)))))
    · show 0 ≤ w
      rw [ew]; exact r3
    · show o_mu w < o_mu z
      rw [ew]; exact o_muL r4
  · intro q hq
    exact o_okI (fun e => absurd e hq.2) (fun _ => o_okS rfl)
/-- which of a thousand places are taken by the anchors -/
def memA (f : Nat → Int32) : Nat → Nat → Bool
  | 0, _ => false
  | k + 1, j => memA f k j || (gi (f k) == j)
theorem memA_iff {f : Nat → Int32} : ∀ (k j : Nat), memA f k j = true ↔ ∃ a, a < k ∧ gi (f a) = j := by
  intro k
  induction k with
  | zero => intro j; exact ⟨fun h => (by cases h), fun ⟨a, h, _⟩ => absurd h (Nat.not_lt_zero _)⟩
  | succ k ih =>
    intro j
    show (memA f k j || (gi (f k) == j)) = true ↔ _
    rw [Bool.or_eq_true, ih j]
    constructor
    · rintro (⟨a, h1, h2⟩ | h)
      · exact ⟨a, Nat.lt_succ_of_lt h1, h2⟩
      · exact ⟨k, Nat.lt_succ_self k, eq_of_beq h⟩
    · rintro ⟨a, h1, h2⟩
      by_cases e : a = k
      · right; rw [← e, h2]; exact beq_self_eq_true j
      · exact Or.inl ⟨a, by omega, h2⟩
def fcn (p : Nat → Bool) : Nat → Nat
  | 0 => 0
  | k + 1 => fcn p k + (if p k = true then 0 else 1)
theorem fcn_le {p : Nat → Bool} : ∀ K, fcn p K ≤ K := by
  intro K
  induction K with
  | zero => exact Nat.le_refl _
  | succ K ih => show fcn p K + _ ≤ K + 1; split <;> omega
theorem fcn_eq {p q : Nat → Bool} : ∀ K, (∀ j, j < K → q j = p j) → fcn q K = fcn p K := by
  intro K
  induction K with
  | zero => intro _; rfl
  | succ K ih =>
    intro h
    show fcn q K + _ = fcn p K + _
    rw [ih (fun j hj => h j (Nat.lt_succ_of_lt hj)), h K (Nat.lt_succ_self K)]
theorem fcn_one {p q : Nat → Bool} {m : Nat} (hm : p m = false) (hq : ∀ j, q j = (p j || (m == j))) : ∀ K, m < K → fcn q K + 1 = fcn p K := by
  intro K
  induction K with
  | zero => intro h; exact absurd h (Nat.not_lt_zero _)
  | succ K ih =>
    intro h
    show fcn q K + _ + 1 = fcn p K + _
    by_cases e : K = m
    · subst e
      have e1 : fcn q K = fcn p K := fcn_eq K (fun j hj => by
        rw [hq j]
        have : (K == j) = false := by
          rw [beq_eq_false_iff_ne]; omega
        rw [this, Bool.or_false])
      have e2 : q K = true := by rw [hq K, beq_self_eq_true, Bool.or_true]
      rw [e1, e2, hm]
      rfl
    · have e1 := ih (by omega)
      have e2 : q K = p K := by
        rw [hq K]
        have : (m == K) = false := by
          rw [beq_eq_false_iff_ne]; omega
        rw [this, Bool.or_false]
      rw [e2]
      omega
/-- the anchors so far: each a string of its own -/
def AN (K : Nat) (s : SMT) (c : Int32) (av as : Nat → Int32) : Prop := 0 ≤ c ∧ c.toInt + fcn (memA av (gi c)) K ≤ 1000 ∧ ∀ a : Int32, 0 ≤ a → a < c → (0 ≤ av (gi a) ∧ av (gi a) < MT_values s ∧ MT_kind s (gi (av (gi a))) = 4) ∧ 0 ≤ as (gi a) ∧ as (gi a) < MT_values s
theorem AN_add {K : Nat} (hK : K = 1000) {s : SMT} {c m x : Int32} {av as : Nat → Int32} (hI : I_MT s) (h : AN K s c av as) (m0 : 0 ≤ m) (m1 : m < MT_values s) (mk : MT_kind s (gi m) = 4) (x0 : 0 ≤ x) (x1 : x < MT_values s) (hn : ∀ a : Int32, 0 ≤ a → a < c → av (gi a) ≠ m) : o_in c 1000 = true ∧ AN K s (c + 1) (upd av (gi c) m) (upd as (gi c) x) := by
  obtain ⟨a1, a2, a3⟩ := h
  have hc := gi_tnc a1
  have ml : gi m < K := by rw [hK]; exact o_tncL (m := 1000) rfl m0 (Int32.lt_of_lt_of_le m1 hI.2.1)
  have hm : memA av (gi c) (gi m) = false := by
    cases e : memA av (gi c) (gi m) with
    | false => rfl
    | true =>
      obtain ⟨a, h1, h2⟩ := (memA_iff _ _).mp e
      exfalso
      have lb : (Int32.ofNat a).toInt = a := by
        have hb := o_i32 c
        exact Int32.toInt_ofNat_of_lt (by omega)
      have ga : gi (Int32.ofNat a) = a := by
        have h0 : 0 ≤ Int32.ofNat a := by rw [Int32.le_iff_toInt_le, lb]; exact Int.natCast_nonneg a
        have := gi_tnc h0
        omega
      have h0 : 0 ≤ Int32.ofNat a := by rw [Int32.le_iff_toInt_le, lb]; exact Int.natCast_nonneg a
      have hl : Int32.ofNat a < c := by rw [Int32.lt_iff_toInt_lt, lb]; omega
      have n1 := hn _ h0 hl
      obtain ⟨⟨v0, v1, v2⟩, _⟩ := a3 _ h0 hl
      rw [ga] at n1 v0
      exact o_neq v0 m0 n1 h2
  have hq : ∀ j, memA (upd av (gi c) m) (gi c + 1) j = (memA av (gi c) j || (gi m == j)) := by
    intro j
    have e1 : ∀ k, k ≤ gi c → memA (upd av (gi c) m) k j = memA av k j := by
      intro k
      induction k with
      | zero => intro _; rfl
      | succ k ih =>
        intro hk
        show (memA (upd av (gi c) m) k j || _) = (memA av k j || _)
        rw [ih (by omega), o_updN (show k ≠ gi c by omega)]
    show (memA (upd av (gi c) m) (gi c) j || (gi (upd av (gi c) m (gi c)) == j)) = _
    rw [e1 _ (Nat.le_refl _), o_updE]
  have hf := fcn_one hm hq K ml
  have cl : c.toInt ≤ 999 := by omega
  obtain ⟨p1, p2, p3⟩ := i32p (n := c) (by omega) a1
  have gp := gi_tnc p2
  have ge : gi (c + 1) = gi c + 1 := by clear hq hf; omega
  refine ⟨o_inM (m := 1000) rfl a1 (i32lt (k := 1000) rfl (by omega)), p2, ?_, fun a b0 hb => ?_⟩
  · rw [ge]; omega
  · by_cases e : a = c
    · rw [e, o_updE, o_updE]; exact ⟨⟨m0, m1, mk⟩, x0, x1⟩
    · rw [o_updN (o_neq b0 a1 e), o_updN (o_neq b0 a1 e)]
      refine a3 a b0 ?_
      have h1 := Int32.lt_iff_toInt_lt.mp hb
      rw [Int32.lt_iff_toInt_lt]
      have : a.toInt ≠ c.toInt := fun z => e (Int32.toInt_inj.mp z)
      omega
def ANx (s : SMT) (a : SNA) : Prop := ∀ K : Nat, K = 1000 → AN K s (NA_anchors a) (NA_anchorValue a) (NA_anchorSchema a)
theorem s_MM_anchor {n : Nat} {x1 x2 : Int32} {M0 : SMT} {Nf : SNF} {Na : SNA} (hn : o_big ≤ n) (hI : I_MT M0) (hT : T_MT M0) (x0 : 0 ≤ x1) (xv : x1 < MT_values M0) (y0 : 0 ≤ x2) (yv : x2 < MT_values M0) (hA : ANx M0 Na) : o_ok (m_MM_anchor n x1 x2 M0 Nf Na) (fun r => (r.1 = Nf ∨ NF_faultKind r.1 ≠ 0) ∧ NF_checked r.1 = NF_checked Nf ∧ ANx M0 r.2 ∧ NA_key r.2 = NA_key Na ∧ NA_isSchema r.2 = NA_isSchema Na ∧ NA_target r.2 = NA_target Na) := by
  have gx := o_inV hI x0 xv
  have i := sc_MT hI
  have ft : ∀ k v : Int32, k ≠ 0 → o_ok (o_bd (m_MM_fault k v Nf) fun q => some (q, Na)) (fun r => (r.1 = Nf ∨ NF_faultKind r.1 ≠ 0) ∧ NF_checked r.1 = NF_checked Nf ∧ ANx M0 r.2 ∧ NA_key r.2 = NA_key Na ∧ NA_isSchema r.2 = NA_isSchema Na ∧ NA_target r.2 = NA_target Na) := by
    intro k v hk
    refine o_okB (s_MM_fault hk) ?_
    intro q ⟨f1, f2⟩
    exact o_okS ⟨Or.inr f1, f2, hA, rfl, rfl, rfl⟩
  -- the loop over the letters
  have l34 : ∀ b : Int32, (b ≠ 0 → MT_kind M0 (gi x1) = 4) → o_ok (o_lp n (m_MM_anchor_b34 n x1 x2 M0 Nf Na) (b, (0:Int32))) (fun q => q.1 ≠ 0 ∧ (q.2.1 ≠ 0 → MT_kind M0 (gi x1) = 4)) := by
    intro b hb
    refine o_lpR (z := (b, (0:Int32))) (P := fun q => q.2.1 ≠ 0 → MT_kind M0 (gi x1) = 4) (fun z : Int32 × Int32 => (z.1 ≠ 0 → MT_kind M0 (gi x1) = 4) ∧ 0 ≤ z.2) (fun z => o_mu z.2) hn o_muB ⟨hb, show (0:Int32) ≤ 0 by decide⟩ (fun z hz => ?_)
    obtain ⟨z1, z2⟩ := hz
    unfold m_MM_anchor_b34
    refine o_okI (fun _ => o_okS ⟨fun e => absurd e (Nat.succ_ne_zero 0), fun _ => z1⟩) (fun c => ?_)
    have k4 := z1 c
    obtain ⟨f1, f2, f3, f4⟩ := (hT x1 x0 xv).2.2.2.2.1 k4
    refine o_okG gx (o_okI (fun _ => o_okS ⟨fun e => absurd e (Nat.succ_ne_zero 0), fun _ => z1⟩) (fun c2 => ?_))
    have c2 : z.2 < MT_many M0 (gi x1) := Int32.not_le.mp c2
    have ar : ∀ f m u v : Int32, 0 ≤ f → f ≤ u → u ≤ 4000 → 0 ≤ u → m ≤ u - f → 0 ≤ v → v < m → 0 ≤ f + v ∧ f + v < 4000 ∧ 0 ≤ v + 1 ∧ v < v + 1 := by
      clear hI hT i gx c2 f1 f2 f3 f4 k4 hA ft z1 hb
      intro f m u v h1 h2 h3 h4 h5 h6 h7
      refine ⟨?_, ?_, ?_, ?_⟩ <;> grind
    obtain ⟨r1, r2, r3, r4⟩ := ar (MT_from M0 (gi x1)) _ _ z.2 f1 f3 i.2.2.2.2.2.2.2.1 i.2.2.2.2.2.2.1 f4 z2 c2
    have gc : o_in (MT_from M0 (gi x1) + z.2) 4000 = true := o_inM (m := 4000) rfl r1 r2
    have j82 : ∀ a b : Int32, o_ok (m_MM_anchor_j82 n x1 x2 z.2 a b M0 Nf Na) (fun q => (q.1 = 0 → ((q.2.1 ≠ 0 → MT_kind M0 (gi x1) = 4) ∧ 0 ≤ q.2.2) ∧ o_mu q.2.2 < o_mu z.2) ∧ (q.1 ≠ 0 → (q.2.1 ≠ 0 → MT_kind M0 (gi x1) = 4))) := by
      intro a b
      unfold m_MM_anchor_j82
      refine o_okB s_MM_isName ?_
      intro q _
      refine o_okN (fun w ew => o_okS ⟨fun _ => ⟨⟨fun _ => k4, ?_⟩, ?_⟩, fun e => absurd rfl e⟩)
      · show 0 ≤ w
        rw [ew]; exact r3
      · show o_mu w < o_mu z.2
        rw [ew]; exact o_muL r4
    exact o_okG gx (o_okG gc (o_okI (fun _ => j82 _ _) (fun _ => j82 _ _)))
  have j92 : ∀ b : Int32, (b ≠ 0 → MT_kind M0 (gi x1) = 4) → o_ok (m_MM_anchor_j92 n x1 x2 b M0 Nf Na) (fun r => (r.1 = Nf ∨ NF_faultKind r.1 ≠ 0) ∧ NF_checked r.1 = NF_checked Nf ∧ ANx M0 r.2 ∧ NA_key r.2 = NA_key Na ∧ NA_isSchema r.2 = NA_isSchema Na ∧ NA_target r.2 = NA_target Na) := by
    intro b hb
    unfold m_MM_anchor_j92
    refine o_okI (fun _ => ft 1 x1 (by decide)) (fun c => ?_)
    have k4 := hb c
    obtain ⟨K, hK⟩ : ∃ K : Nat, K = 1000 := ⟨1000, rfl⟩
    have A := hA K hK
    have A0 := A
    obtain ⟨a1, a2, a3⟩ := A0
    refine o_okB (o_lpR (z := (0:Int32)) (P := fun q => q.1 = 1 ∨ ∀ a : Int32, 0 ≤ a → a < NA_anchors Na → NA_anchorValue Na (gi a) ≠ x1) (fun z : Int32 => 0 ≤ z ∧ ∀ a : Int32, 0 ≤ a → a < z → NA_anchorValue Na (gi a) ≠ x1) o_mu hn o_muB ⟨show (0:Int32) ≤ 0 by decide, fun a b0 hb => absurd (Int32.lt_of_le_of_lt b0 hb) (by decide)⟩ (fun z hz => ?_)) ?_
    · obtain ⟨z0, z1⟩ := hz
      unfold m_MM_anchor_b106
      refine o_okI (fun c => o_okS ⟨fun e => absurd e (Nat.succ_ne_zero 1), fun _ => Or.inr (fun a b0 hb => z1 a b0 (Int32.lt_of_lt_of_le hb c))⟩) (fun c => ?_)
      have c : z < NA_anchors Na := Int32.not_le.mp c
      have ct := Int32.lt_iff_toInt_lt.mp c
      obtain ⟨p1, p2, p3⟩ := i32p (n := z) (by omega) z0
      obtain ⟨⟨v0, v1, v2⟩, _⟩ := a3 z z0 c
      refine o_okG (o_inM (m := 1000) rfl z0 (i32lt (k := 1000) rfl (by omega))) ?_
      by_cases e : NA_anchorValue Na (gi z) = x1
      · have hs := s_same_self hn hI hT x0 xv k4
        have e' : NA_anchorValue Na z.toNatClampNeg = x1 := e
        rw [e']
        refine o_okB hs ?_
        intro q3 e3
        exact o_okI (fun c0 => absurd (e3.symm.trans c0) (by decide)) (fun _ => o_okS ⟨fun e => absurd e (Nat.succ_ne_zero 0), fun _ => Or.inl rfl⟩)
      · refine o_okB (s_MT_same hn hI hT hI hT x0 xv k4 v0 v1 v2) ?_
        intro q3 _
        refine o_okI (fun _ => o_okN (fun w ew => o_okS ⟨fun _ => ⟨⟨?_, fun a b0 hb => ?_⟩, ?_⟩, fun e => absurd rfl e⟩)) (fun _ => o_okS ⟨fun e => absurd e (Nat.succ_ne_zero 0), fun _ => Or.inl rfl⟩)
        · show 0 ≤ w
          rw [ew]; exact p2
        · have hb : a < w := hb
          by_cases ea : a = z
          · rw [ea]; exact e
          · refine z1 a b0 ?_
            rw [ew] at hb
            have h1 := Int32.lt_iff_toInt_lt.mp hb
            rw [Int32.lt_iff_toInt_lt]
            have : a.toInt ≠ z.toInt := fun y => ea (Int32.toInt_inj.mp y)
            omega
        · show o_mu w < o_mu z
          rw [ew]; exact o_muL p3
    · intro q4 ⟨_, h4⟩
      refine o_okI (fun _ => ft 3 x1 (by decide)) (fun n1 => ?_)
      have hnew : ∀ a : Int32, 0 ≤ a → a < NA_anchors Na → NA_anchorValue Na (gi a) ≠ x1 := by
        rcases h4 with h | h
        · exact absurd h n1
        · exact h
      obtain ⟨g, _⟩ := AN_add hK hI A x0 xv k4 y0 yv hnew
      refine o_okG g (o_okG g (o_okS ⟨Or.inl rfl, rfl, fun K' hK' => ?_, rfl, rfl, rfl⟩))
      exact (AN_add hK' hI (hA K' hK') x0 xv k4 y0 yv hnew).2
  unfold m_MM_anchor
  refine o_okG gx (o_okI (fun k4 => o_okG gx (o_okI (fun _ => ?_) (fun _ => ?_))) (fun _ => ?_))
  · refine o_okB (l34 0 (fun e => absurd rfl e)) ?_
    intro q hq
    exact j92 _ hq.2
  · refine o_okB (l34 1 (fun _ => k4)) ?_
    intro q hq
    exact j92 _ hq.2
  · refine o_okB (l34 0 (fun e => absurd rfl e)) ?_
    intro q hq
    exact j92 _ hq.2
