/-! Safety: a mirror gives 'some', and what holds of it -/
def o_ok {α : Type} (o : Option α) (P : α → Prop) : Prop := ∃ r, o = some r ∧ P r
def o_big : Nat := 4294967297
theorem o_okS {α : Type} {r : α} {P : α → Prop} (h : P r) : o_ok (some r) P := ⟨r, rfl, h⟩
theorem o_okB {α β : Type} {o : Option α} {k : α → Option β} {Q : α → Prop} {P : β → Prop} (h : o_ok o Q) (h2 : ∀ a, Q a → o_ok (k a) P) : o_ok (o_bd o k) P := by
  obtain ⟨a, rfl, ha⟩ := h
  exact h2 a ha
theorem o_okN {α β : Type} {x : α} {k : α → Option β} {P : β → Prop} (h : ∀ y, y = x → o_ok (k y) P) : o_ok (o_nm x k) P := h x rfl
theorem o_okG {β : Type} {b : Bool} {k : Option β} {P : β → Prop} (hb : b = true) (h : o_ok k P) : o_ok (o_gd b k) P := by
  subst hb
  exact h
theorem o_okI {β : Type} {c : Prop} [Decidable c] {A B : Option β} {P : β → Prop} (h1 : c → o_ok A P) (h2 : ¬ c → o_ok B P) : o_ok (if c then A else B) P := by
  by_cases h : c
  · rw [if_pos h]; exact h1 h
  · rw [if_neg h]; exact h2 h
theorem o_okW {α : Type} {o : Option α} {Q P : α → Prop} (h : o_ok o Q) (h2 : ∀ r, Q r → P r) : o_ok o P := by
  obtain ⟨r, e, hr⟩ := h
  exact ⟨r, e, h2 r hr⟩
theorem o_lpR {σ : Type} {f : σ → Option (Nat × σ)} {P : Nat × σ → Prop} {n : Nat} {z : σ} (I : σ → Prop) (μ : σ → Nat) (hn : o_big ≤ n) (hμ : μ z < o_big) (hz : I z)
    (step : ∀ z, I z → o_ok (f z) (fun q => (q.1 = 0 → I q.2 ∧ μ q.2 < μ z) ∧ (q.1 ≠ 0 → P q))) : o_ok (o_lp n f z) (fun q => q.1 ≠ 0 ∧ P q) := by
  have key : ∀ (n : Nat) (z : σ), I z → μ z < n → o_ok (o_lp n f z) (fun q => q.1 ≠ 0 ∧ P q) := by
    intro n
    induction n with
    | zero => intro z _ h; exact absurd h (Nat.not_lt_zero _)
    | succ n ih =>
      intro z hz h
      show o_ok (o_bd (f z) fun q => if q.1 = 0 then o_lp n f q.2 else some q) _
      refine o_okB (step z hz) (fun q hq => ?_)
      refine o_okI (fun h0 => ?_) (fun h0 => o_okS ⟨h0, hq.2 h0⟩)
      obtain ⟨h1, h2⟩ := hq.1 h0
      exact ih q.2 h1 (Nat.lt_of_lt_of_le h2 (Nat.le_of_lt_succ h))
  exact key n z hz (Nat.lt_of_lt_of_le hμ hn)
def o_mu (i : Int32) : Nat := (2147483648 - i.toInt).toNat
def o_nu (i : Int32) : Nat := (2147483648 + i.toInt).toNat
theorem o_i32 (i : Int32) : -2147483648 ≤ i.toInt ∧ i.toInt < 2147483648 := ⟨Int32.le_toInt i, Int32.toInt_lt i⟩
theorem o_muB {i : Int32} : o_mu i < o_big := by
  have := o_i32 i
  unfold o_mu o_big
  omega
theorem o_nuB {i : Int32} : o_nu i < o_big := by
  have := o_i32 i
  unfold o_nu o_big
  omega
theorem o_muL {i j : Int32} (h : i < j) : o_mu j < o_mu i := by
  have h := Int32.lt_iff_toInt_lt.mp h
  have := o_i32 i
  have := o_i32 j
  unfold o_mu
  omega
theorem o_nuL {i j : Int32} (h : j < i) : o_nu j < o_nu i := by
  have h := Int32.lt_iff_toInt_lt.mp h
  have := o_i32 i
  have := o_i32 j
  unfold o_nu
  omega
theorem o_tnc {i : Int32} (h : 0 ≤ i) : (i.toNatClampNeg : Int) = i.toInt := by
  have h := Int32.le_iff_toInt_le.mp h
  have h : 0 ≤ i.toInt := h
  unfold Int32.toNatClampNeg
  exact Int.toNat_of_nonneg h
theorem o_inM {i : Int32} {n : Nat} {m : Int32} (hm : m.toInt = (n : Int)) (h0 : 0 ≤ i) (h1 : i < m) : o_in i n = true := by
  have e := o_tnc h0
  have h1 := Int32.lt_iff_toInt_lt.mp h1
  unfold o_in
  have a : ¬ i < 0 := by grind
  have b : ¬ n ≤ i.toNatClampNeg := by omega
  simp [a, b]
theorem o_zbM {x : Int32} (h : x = 0 ∨ x = 1) : o_zb x = true := by
  rcases h with rfl | rfl <;> decide
theorem o_kbM {k : Nat} (h : k < 45) : o_kb k = true := by
  unfold o_kb
  simpa using h
def o_bn (lo hi : Int32) (f : Nat → Int32) : Prop := ∀ i, lo ≤ f i ∧ f i ≤ hi
theorem o_bnU {lo hi : Int32} {f : Nat → Int32} {k : Nat} {v : Int32} (h : o_bn lo hi f) (h1 : lo ≤ v) (h2 : v ≤ hi) : o_bn lo hi (upd f k v) := by
  intro i
  unfold upd
  by_cases e : i = k
  · rw [if_pos e]; exact ⟨h1, h2⟩
  · rw [if_neg e]; exact h i
theorem o_bnC {lo hi : Int32} {f g : Nat → Int32} {a b c : Nat} (hf : o_bn lo hi f) (hg : o_bn lo hi g) : o_bn lo hi (va_cpy f g a b c) := by
  intro i
  unfold va_cpy
  split
  · exact hf _
  · exact hg _
theorem o_cpM {sp dp n m : Int32} {a b : Nat} (ha : m.toInt = (a : Int)) (hb : m.toInt = (b : Int)) (h0 : 0 ≤ sp) (h1 : 0 ≤ dp) (h2 : 0 ≤ n) (h3 : sp ≤ m - n) (h4 : dp ≤ m - n ∧ n ≤ m) : o_cp sp dp n a b = true := by
  have e0 := o_tnc h0
  have e1 := o_tnc h1
  have e2 := o_tnc h2
  have k2 : sp.toInt ≤ m.toInt - n.toInt := by
    have h3 := Int32.le_iff_toInt_le.mp h3
    have j2 := Int32.le_iff_toInt_le.mp h2
    have j3 := Int32.le_iff_toInt_le.mp h4.2
    have t := o_i32 m
    have t2 := o_i32 n
    rw [Int32.toInt_sub] at h3
    have z : (0 : Int32).toInt = 0 := rfl
    rw [z] at j2
    have e : (m.toInt - n.toInt).bmod (2 ^ 32) = m.toInt - n.toInt := by
      apply Int.bmod_eq_of_le <;> omega
    rw [e] at h3
    exact h3
  have k3 : dp.toInt ≤ m.toInt - n.toInt := by
    have h3 := Int32.le_iff_toInt_le.mp h4.1
    have j2 := Int32.le_iff_toInt_le.mp h2
    have j3 := Int32.le_iff_toInt_le.mp h4.2
    have t := o_i32 m
    have t2 := o_i32 n
    rw [Int32.toInt_sub] at h3
    have z : (0 : Int32).toInt = 0 := rfl
    rw [z] at j2
    have e : (m.toInt - n.toInt).bmod (2 ^ 32) = m.toInt - n.toInt := by
      apply Int.bmod_eq_of_le <;> omega
    rw [e] at h3
    exact h3
  unfold o_cp
  have a0 : ¬ sp < 0 := by grind
  have a1 : ¬ dp < 0 := by grind
  have a2 : ¬ n < 0 := by grind
  have b1 : sp.toNatClampNeg + n.toNatClampNeg ≤ a := by omega
  have b2 : dp.toNatClampNeg + n.toNatClampNeg ≤ b := by omega
  simp [a0, a1, a2, b1, b2]
def I_Tx (s : STx) : Prop := 0 ≤ Tx_total s ∧ Tx_total s ≤ 1000 ∧ 0 ≤ Tx_used s ∧ Tx_used s ≤ 8192 ∧ o_bn 0 8192 (Tx_starts s) ∧ o_bn (-8192) 8192 (Tx_sizes s) ∧ o_bn (-1) 1114111 (Tx_cells s)
def I_Rd (s : SRd) : Prop := 0 ≤ Rd_wordCount s ∧ Rd_wordCount s ≤ 2050
def I_Pg (s : SPg) : Prop := 0 ≤ Pg_length s ∧ Pg_length s ≤ 1048576 ∧ 0 ≤ Pg_setsUsed s ∧ Pg_setsUsed s ≤ 8000 ∧ 0 ≤ Pg_top s ∧ Pg_top s ≤ 1300 ∧ 0 ≤ Pg_waitingCount s ∧ Pg_waitingCount s ≤ 1300 ∧ o_bn 0 1299 (Pg_stack s) ∧ o_bn (-2147483648) 1073741824 (Pg_arguments s) ∧ o_bn (-2147483648) 8388607 (Pg_sets s)
def I_Pt (s : SPt) : Prop := Pt_characterCount s ≤ 4000 ∧ 0 ≤ Pt_tokenCount s ∧ Pt_tokenCount s ≤ 4000 ∧ 0 ≤ Pt_position s ∧ Pt_position s ≤ 16777216 ∧ 0 ≤ Pt_depth s ∧ Pt_depth s ≤ 30 ∧ o_bn (-2147483648) 8388607 (Pt_tokens s) ∧ o_bn 0 1048576 (Pt_blockStarts s) ∧ o_bn 0 1048576 (Pt_branchStarts s) ∧ o_bn (-2147483648) 1073741824 (Pt_jumps s)
def I_Lk (s : SLk) : Prop := 0 ≤ Lk_length s ∧ Lk_length s ≤ 4000
def I_Ck (s : SCk) : Prop := 0 ≤ Ck_reachedCount s ∧ Ck_reachedCount s ≤ 1000
def I_Pr (s : SPr) : Prop := 0 ≤ Pr_size s ∧ Pr_size s ≤ 300
def I_Jd (s : SJd) : Prop := Jd_over s = 0 ∨ Jd_over s = 1
theorem o_tncL {i : Int32} {n : Nat} {m : Int32} (hm : m.toInt = (n : Int)) (h0 : 0 ≤ i) (h1 : i < m) : i.toNatClampNeg < n := by
  have e := o_tnc h0
  have h1 := Int32.lt_iff_toInt_lt.mp h1
  omega
theorem o_shr2 {x : Int32} (h : 0 ≤ x) : 0 ≤ x >>> ((2:Int32) &&& 31) := by
  have h := Int32.le_iff_toInt_le.mp h
  have h : 0 ≤ x.toInt := h
  rw [Int32.le_iff_toInt_le]
  show (0:Int) ≤ _
  have e : x >>> ((2:Int32) &&& 31) = ⟨⟨x.toBitVec.sshiftRight 2⟩⟩ := rfl
  rw [e]
  show (0:Int) ≤ (x.toBitVec.sshiftRight 2).toInt
  rw [BitVec.toInt_sshiftRight]
  have h : 0 ≤ x.toBitVec.toInt := h
  rw [Int.shiftRight_eq_div_pow]
  exact Int.ediv_nonneg h (by decide)
theorem o_slB : ∀ i, 0 ≤ o_sl i ∧ o_sl i ≤ 41 ∧ (o_sl i).toInt = (o_slen.getD i 0 : Nat) := by
  intro i
  by_cases h : i < 70
  · revert i
    decide +kernel
  · have e : o_slen.getD i 0 = 0 := by
      rw [List.getD_eq_getElem?_getD, List.getElem?_eq_none (by show 70 ≤ i; omega)]; rfl
    unfold o_sl
    rw [e]
    decide
theorem o_inS {z : Int32} {i : Nat} (h0 : 0 ≤ z) (h1 : z < o_sl i) : o_in z (o_slen.getD i 0) = true := o_inM (o_slB i).2.2 h0 h1
theorem o_inK {k : Nat} (h : k < 45) : o_in (nI k) 45 = true := by
  revert k
  decide +kernel
theorem o_chr {i : Nat} {z : Int32} (h0 : 0 ≤ z) (h1 : z < o_sl i) : o_nr .char ((((o_sa i z.toNatClampNeg) &&& (255:Int32)).toUInt32 % 65536).toInt32) = true := by
  have key : ∀ i < 70, ∀ j < o_slen.getD i 0, o_nr .char ((((o_sa i j) &&& (255:Int32)).toUInt32 % 65536).toInt32) = true := by decide +kernel
  have hj : z.toNatClampNeg < o_slen.getD i 0 := o_tncL (o_slB i).2.2 h0 h1
  by_cases h : i < 70
  · exact key i h _ hj
  · have e : o_slen.getD i 0 = 0 := by
      rw [List.getD_eq_getElem?_getD, List.getElem?_eq_none (by show 70 ≤ i; omega)]; rfl
    rw [e] at hj
    exact absurd hj (Nat.not_lt_zero _)
theorem o_clsT {q : Int32} (h0 : -1 ≤ q) (h1 : q < 6) : (4194304:Int32) ||| ((1:Int32) <<< (q &&& 31)) ≤ 8388607 := by
  have : q = -1 ∨ q = 0 ∨ q = 1 ∨ q = 2 ∨ q = 3 ∨ q = 4 ∨ q = 5 := by grind
  rcases this with rfl | rfl | rfl | rfl | rfl | rfl | rfl <;> decide
theorem o_nneg {x : Int32} (h : 0 ≤ x) : x.toInt = x.toBitVec.toNat ∧ x.toBitVec.toNat < 2147483648 := by
  have h := Int32.le_iff_toInt_le.mp h
  have h : 0 ≤ x.toBitVec.toInt := h
  have e := BitVec.toInt_eq_toNat_cond x.toBitVec
  have l := x.toBitVec.isLt
  have e2 : x.toInt = x.toBitVec.toInt := rfl
  rw [e2]
  split at e <;> omega
theorem o_neg {x : Int32} (h : x < 0) : 2147483648 ≤ x.toBitVec.toNat := by
  have h := Int32.lt_iff_toInt_lt.mp h
  have h : x.toBitVec.toInt < 0 := h
  have e := BitVec.toInt_eq_toNat_cond x.toBitVec
  have l := x.toBitVec.isLt
  split at e <;> omega
theorem o_leN {x m : Int32} {k : Nat} (hm : m.toInt = (k : Int)) (h : x.toBitVec.toNat ≤ k ∨ 2147483648 ≤ x.toBitVec.toNat) : x ≤ m := by
  rw [Int32.le_iff_toInt_le, hm]
  show x.toBitVec.toInt ≤ _
  have e := BitVec.toInt_eq_toNat_cond x.toBitVec
  have l := x.toBitVec.isLt
  split at e <;> omega
theorem o_orL {a b : Int32} (ha : a ≤ 8388607) (hb : b ≤ 8388607) : a ||| b ≤ 8388607 := by
  refine o_leN (k := 8388607) rfl ?_
  show (a.toBitVec ||| b.toBitVec).toNat ≤ _ ∨ _ ≤ (a.toBitVec ||| b.toBitVec).toNat
  rw [BitVec.toNat_or]
  by_cases h1 : a < 0
  · exact Or.inr (Nat.le_trans (o_neg h1) Nat.left_le_or)
  by_cases h2 : b < 0
  · exact Or.inr (Nat.le_trans (o_neg h2) Nat.right_le_or)
  · have e1 := o_nneg (x := a) (by grind)
    have e2 := o_nneg (x := b) (by grind)
    have k1 := Int32.le_iff_toInt_le.mp ha
    have k2 := Int32.le_iff_toInt_le.mp hb
    have z : (8388607 : Int32).toInt = 8388607 := rfl
    rw [z] at k1 k2
    exact Or.inl (Nat.le_of_lt_succ (Nat.or_lt_two_pow (n := 23) (by omega) (by omega)))
theorem o_orP {a b : Int32} (ha0 : 0 ≤ a) (ha : a ≤ 8388607) (hb0 : 0 ≤ b) (hb : b ≤ 8388607) : 0 ≤ a ||| b := by
  rw [Int32.le_iff_toInt_le]
  show (0:Int) ≤ (a.toBitVec ||| b.toBitVec).toInt
  have e1 := o_nneg ha0
  have e2 := o_nneg hb0
  have k1 := Int32.le_iff_toInt_le.mp ha
  have k2 := Int32.le_iff_toInt_le.mp hb
  have z : (8388607 : Int32).toInt = 8388607 := rfl
  rw [z] at k1 k2
  have t : (a.toBitVec ||| b.toBitVec).toNat < 8388608 := by
    rw [BitVec.toNat_or]
    exact Nat.or_lt_two_pow (n := 23) (by omega) (by omega)
  have e := BitVec.toInt_eq_toNat_cond (a.toBitVec ||| b.toBitVec)
  split at e <;> omega
theorem o_andM {x : Int32} : 0 ≤ x &&& 2097151 ∧ x &&& 2097151 ≤ 2097151 := by
  have t : (x.toBitVec &&& (2097151:Int32).toBitVec).toNat ≤ 2097151 := by
    rw [BitVec.toNat_and]
    exact Nat.and_le_right
  refine ⟨?_, o_leN (k := 2097151) rfl (Or.inl t)⟩
  rw [Int32.le_iff_toInt_le]
  show (0:Int) ≤ (x.toBitVec &&& (2097151:Int32).toBitVec).toInt
  have e := BitVec.toInt_eq_toNat_cond (x.toBitVec &&& (2097151:Int32).toBitVec)
  split at e <;> omega
theorem o_and255 {x : Int32} : 0 ≤ x &&& 255 ∧ x &&& 255 ≤ 255 := by
  have t : (x.toBitVec &&& (255:Int32).toBitVec).toNat ≤ 255 := by
    rw [BitVec.toNat_and]
    exact Nat.and_le_right
  refine ⟨?_, o_leN (k := 255) rfl (Or.inl t)⟩
  rw [Int32.le_iff_toInt_le]
  show (0:Int) ≤ (x.toBitVec &&& (255:Int32).toBitVec).toInt
  have e := BitVec.toInt_eq_toNat_cond (x.toBitVec &&& (255:Int32).toBitVec)
  split at e <;> omega
theorem o_andC {x : Int32} (h : x ≤ 8388607) : x &&& (-4194305) ≤ 8388607 := by
  refine o_leN (k := 8388607) rfl ?_
  show (x.toBitVec &&& (-4194305:Int32).toBitVec).toNat ≤ _ ∨ _ ≤ (x.toBitVec &&& (-4194305:Int32).toBitVec).toNat
  by_cases h1 : x < 0
  · right
    have e1 := o_neg h1
    rw [BitVec.toNat_and]
    have b1 : (x.toBitVec.toNat &&& (-4194305:Int32).toBitVec.toNat).testBit 31 = true := by
      rw [Nat.testBit_and]
      have u1 : x.toBitVec.toNat.testBit 31 = true := by
        have l := x.toBitVec.isLt
        rw [Nat.testBit_eq_decide_div_mod_eq]
        have : x.toBitVec.toNat / 2 ^ 31 = 1 := by omega
        rw [this]; rfl
      have u2 : ((-4194305:Int32).toBitVec.toNat).testBit 31 = true := by decide
      rw [u1, u2]; rfl
    exact Nat.ge_two_pow_of_testBit b1
  · left
    have e1 := o_nneg (x := x) (by grind)
    have k1 := Int32.le_iff_toInt_le.mp h
    have z : (8388607 : Int32).toInt = 8388607 := rfl
    rw [z] at k1
    rw [BitVec.toNat_and]
    exact Nat.le_trans Nat.and_le_left (by omega)
theorem o_sh0 {x : Int32} : x >>> ((0:Int32) &&& 31) = x := by
  have e : x >>> ((0:Int32) &&& 31) = ⟨⟨x.toBitVec.sshiftRight 0⟩⟩ := rfl
  rw [e, BitVec.sshiftRight_zero]
  rfl
theorem o_sur {x : Int32} (h0 : 55296 ≤ x) (h1 : x < 56320) : 0 ≤ (x - 55296) <<< ((10:Int32) &&& 31) ∧ (x - 55296) <<< ((10:Int32) &&& 31) ≤ 1047552 := by
  have h : ∀ k : Nat, k < 1024 → 0 ≤ (Int32.ofNat k) <<< ((10:Int32) &&& 31) ∧ (Int32.ofNat k) <<< ((10:Int32) &&& 31) ≤ 1047552 := by decide +kernel
  have g0 : 0 ≤ x - 55296 := by grind
  have g1 : x - 55296 < 1024 := by grind
  have e := o_nneg g0
  have g := Int32.lt_iff_toInt_lt.mp g1
  have z : (1024 : Int32).toInt = 1024 := rfl
  rw [z] at g
  have q : Int32.ofNat (x - 55296).toBitVec.toNat = x - 55296 := by
    apply Int32.toBitVec_inj.mp
    show BitVec.ofNat 32 (x - 55296).toBitVec.toNat = _
    rw [BitVec.ofNat_toNat]
    exact BitVec.setWidth_eq _
  have := h (x - 55296).toBitVec.toNat (by omega)
  rwa [q] at this
theorem o_add1 {x : Int32} (h : x < 2147483647) : (x + 1).toInt = x.toInt + 1 := by
  have h := Int32.lt_iff_toInt_lt.mp h
  have z : (2147483647 : Int32).toInt = 2147483647 := rfl
  rw [z] at h
  have b := o_i32 x
  rw [Int32.toInt_add]
  have o : (1 : Int32).toInt = 1 := rfl
  rw [o]
  apply Int.bmod_eq_of_le <;> omega
theorem o_neq {a b : Int32} (h0 : 0 ≤ a) (h1 : 0 ≤ b) (h : a ≠ b) : a.toNatClampNeg ≠ b.toNatClampNeg := by
  have e0 := o_tnc h0
  have e1 := o_tnc h1
  intro e
  apply h
  apply Int32.toInt_inj.mp
  omega
theorem o_tnc45 {i : Int32} (h0 : 0 ≤ i) (h1 : i < 45) : i.toNatClampNeg < 45 := o_tncL (m := 45) rfl h0 h1
theorem o_sl8 : o_sl 8 = 6 := rfl
theorem o_cpI {x l : Int32} (h0 : 0 ≤ x) (h1 : x ≤ l) (h2 : l < 1300) : o_cp x (x + 1) (l - x) 1300 1300 = true := by
  have a0 : 0 ≤ x + 1 := by grind
  have a1 : 0 ≤ l - x := by grind
  have e0 := o_tnc h0
  have e1 := o_tnc a0
  have e2 := o_tnc a1
  have b0 := Int32.le_iff_toInt_le.mp h0
  have b1 := Int32.le_iff_toInt_le.mp h1
  have b2 := Int32.lt_iff_toInt_lt.mp h2
  have z0 : (0 : Int32).toInt = 0 := rfl
  have z1 : (1300 : Int32).toInt = 1300 := rfl
  rw [z0] at b0
  rw [z1] at b2
  have k1 : (x + 1).toInt = x.toInt + 1 := o_add1 (by grind)
  have k2 : (l - x).toInt = l.toInt - x.toInt := by
    rw [Int32.toInt_sub]
    apply Int.bmod_eq_of_le <;> omega
  unfold o_cp
  have c0 : ¬ x < 0 := by grind
  have c1 : ¬ x + 1 < 0 := by grind
  have c2 : ¬ l - x < 0 := by grind
  have d1 : x.toNatClampNeg + (l - x).toNatClampNeg ≤ 1300 := by omega
  have d2 : (x + 1).toNatClampNeg + (l - x).toNatClampNeg ≤ 1300 := by omega
  simp only [c0, c1, c2, d1, d2, decide_true, decide_false, Bool.not_false, Bool.and_self]
theorem o_cpC {x l b : Int32} (h0 : 0 ≤ x) (h1 : 0 ≤ b) (h2 : 0 ≤ l) (h3 : x ≤ 1048576 ∧ b ≤ 1048577 ∧ l ≤ 1048576) (h4 : x + b ≤ l) (h5 : l + b ≤ 1300) : o_cp x l b 1300 1300 = true := by
  have e0 := o_tnc h0
  have e1 := o_tnc h1
  have e2 := o_tnc h2
  have b0 := Int32.le_iff_toInt_le.mp h0
  have b1 := Int32.le_iff_toInt_le.mp h1
  have b2 := Int32.le_iff_toInt_le.mp h2
  have b3 := Int32.le_iff_toInt_le.mp h3.1
  have b4 := Int32.le_iff_toInt_le.mp h3.2.1
  have b5 := Int32.le_iff_toInt_le.mp h3.2.2
  have b6 := Int32.le_iff_toInt_le.mp h4
  have b7 := Int32.le_iff_toInt_le.mp h5
  have z0 : (0 : Int32).toInt = 0 := rfl
  have z1 : (1300 : Int32).toInt = 1300 := rfl
  have z2 : (1048576 : Int32).toInt = 1048576 := rfl
  have z3 : (1048577 : Int32).toInt = 1048577 := rfl
  rw [z0] at b0 b1 b2
  rw [z1] at b7
  rw [z2] at b3 b5
  rw [z3] at b4
  have k1 : (x + b).toInt = x.toInt + b.toInt := by
    rw [Int32.toInt_add]
    apply Int.bmod_eq_of_le <;> omega
  have k2 : (l + b).toInt = l.toInt + b.toInt := by
    rw [Int32.toInt_add]
    apply Int.bmod_eq_of_le <;> omega
  rw [k1] at b6
  rw [k2] at b7
  unfold o_cp
  have c0 : ¬ x < 0 := by grind
  have c1 : ¬ l < 0 := by grind
  have c2 : ¬ b < 0 := by grind
  have d1 : x.toNatClampNeg + b.toNatClampNeg ≤ 1300 := by omega
  have d2 : l.toNatClampNeg + b.toNatClampNeg ≤ 1300 := by omega
  simp only [c0, c1, c2, d1, d2, decide_true, decide_false, Bool.not_false, Bool.and_self]
theorem o_updN {f : Nat → Int32} {k j : Nat} {v : Int32} (h : j ≠ k) : upd f k v j = f j := by
  unfold upd
  rw [if_neg h]
theorem o_updE {f : Nat → Int32} {k : Nat} {v : Int32} : upd f k v k = v := by
  unfold upd
  rw [if_pos rfl]
theorem sc_Tx {s : STx} (h : I_Tx s) : 0 ≤ Tx_total s ∧ Tx_total s ≤ 1000 ∧ 0 ≤ Tx_used s ∧ Tx_used s ≤ 8192 := ⟨h.1, h.2.1, h.2.2.1, h.2.2.2.1⟩
theorem sc_Rd {s : SRd} (h : I_Rd s) : 0 ≤ Rd_wordCount s ∧ Rd_wordCount s ≤ 2050 := ⟨h.1, h.2⟩
theorem sc_Pg {s : SPg} (h : I_Pg s) : 0 ≤ Pg_length s ∧ Pg_length s ≤ 1048576 ∧ 0 ≤ Pg_setsUsed s ∧ Pg_setsUsed s ≤ 8000 ∧ 0 ≤ Pg_top s ∧ Pg_top s ≤ 1300 ∧ 0 ≤ Pg_waitingCount s ∧ Pg_waitingCount s ≤ 1300 := ⟨h.1, h.2.1, h.2.2.1, h.2.2.2.1, h.2.2.2.2.1, h.2.2.2.2.2.1, h.2.2.2.2.2.2.1, h.2.2.2.2.2.2.2.1⟩
theorem sc_Pt {s : SPt} (h : I_Pt s) : Pt_characterCount s ≤ 4000 ∧ 0 ≤ Pt_tokenCount s ∧ Pt_tokenCount s ≤ 4000 ∧ 0 ≤ Pt_position s ∧ Pt_position s ≤ 16777216 ∧ 0 ≤ Pt_depth s ∧ Pt_depth s ≤ 30 := ⟨h.1, h.2.1, h.2.2.1, h.2.2.2.1, h.2.2.2.2.1, h.2.2.2.2.2.1, h.2.2.2.2.2.2.1⟩
theorem sc_Lk {s : SLk} (h : I_Lk s) : 0 ≤ Lk_length s ∧ Lk_length s ≤ 4000 := ⟨h.1, h.2⟩
theorem sc_Ck {s : SCk} (h : I_Ck s) : 0 ≤ Ck_reachedCount s ∧ Ck_reachedCount s ≤ 1000 := ⟨h.1, h.2⟩
theorem sc_Pr {s : SPr} (h : I_Pr s) : 0 ≤ Pr_size s ∧ Pr_size s ≤ 300 := ⟨h.1, h.2⟩
theorem sc_Jd {s : SJd} (h : I_Jd s) : Jd_over s = 0 ∨ Jd_over s = 1 := h
theorem o_le1 {a b c : Int32} (h : a ≤ b + 1) (h2 : b ≤ c) (h3 : c < 4000) : a ≤ c + 1 := by
  have t : b < 4000 := by grind
  have e := o_add1 (x := b) (by grind)
  have e2 := o_add1 (x := c) (by grind)
  have k := Int32.le_iff_toInt_le.mp h
  have k2 := Int32.le_iff_toInt_le.mp h2
  rw [Int32.le_iff_toInt_le]
  omega
theorem o_minL {l x : Int32} (h0 : 0 ≤ l) (h1 : l ≤ 1048576) (h2 : 0 ≤ x) (h3 : x ≤ 1048577) : 0 ≤ (if (1048576:Int32) < l + x then (1048576:Int32) else l + x) ∧ (if (1048576:Int32) < l + x then (1048576:Int32) else l + x) ≤ 1048576 := by
  have t : 0 ≤ l + x := by grind
  split
  · decide
  · exact ⟨t, by grind⟩
