def m_Rd_hasRoom (Rd : SRd) : Option (Int32) :=
  if (2050:Int32) < ((Rd_wordCount Rd) + (5:Int32)) then
    some (0:Int32)
  else
    some (1:Int32)
def m_Rd_addWord (x1 : Int32) (Rd : SRd) : Option (SRd) :=
  if (2050:Int32) ≤ (Rd_wordCount Rd) then
    some Rd
  else
    o_gd (o_in (Rd_wordCount Rd) 2050) <|
    some (Rd_mk (upd (Rd_words Rd) (Rd_wordCount Rd).toNatClampNeg x1) ((Rd_wordCount Rd) + (1:Int32)) (Rd_position Rd) (Rd_limit Rd) (Rd_wrongPlace Rd))
def m_Rd_octets (Rd : SRd) : Option (Int32) :=
  some ((Rd_wordCount Rd) * (4:Int32))
def m_SJ_feed (x1 : Int32) (x2 : Int32) (x3 : Int32) (x4 : Int32) (x5 : Int32) (Rd : SRd) : Option (Nat × Int32 × SRd) :=
  o_bd (m_Rd_hasRoom Rd) fun q1 =>
  if q1 = 0 then
    some (1, (0:Int32), Rd)
  else
    o_bd (m_Rd_addWord x1 Rd) fun q2 =>
    o_bd (m_Rd_addWord x2 q2) fun q3 =>
    o_bd (m_Rd_addWord x3 q3) fun q4 =>
    o_bd (m_Rd_addWord x4 q4) fun q5 =>
    o_bd (m_Rd_addWord x5 q5) fun q6 =>
    o_bd (m_Rd_octets q6) fun q7 =>
    some (0, q7, q6)
def m_Ck_forget (Ck : SCk) : Option (SCk) :=
  some (Ck_mk (Ck_aimedAt Ck) (Ck_reached Ck) (Ck_reachedFrom Ck) (Ck_reachedCount Ck) (-1:Int32) (-1:Int32))
def m_Tx_clear (a0 : STx) : Option (STx) :=
  some (Tx_mk (Tx_kinds a0) (Tx_places a0) (Tx_sizes a0) (Tx_parents a0) (Tx_exponents a0) (Tx_starts a0) (Tx_afters a0) (Tx_slots a0) (Tx_negatives a0) (Tx_cells a0) (0:Int32) (0:Int32) (0:Int32))
def m_Rd_peek (Rd : SRd) : Option (Int32) :=
  o_nm ((Rd_position Rd) >>> ((2:Int32) &&& 31)) fun x1_6 =>
  if (Rd_position Rd) < 0 then
    some (-1:Int32)
  else
    if (Rd_limit Rd) ≤ (Rd_position Rd) then
      some (-1:Int32)
    else
      if x1_6 < (2050:Int32) then
        o_gd (o_in x1_6 2050) <|
        some ((((Rd_words Rd) x1_6.toNatClampNeg).toUInt32 >>> (((24:Int32) - ((8:Int32) * ((Rd_position Rd) &&& (3:Int32)))).toUInt32 &&& Int32.toUInt32 31)).toInt32 &&& (255:Int32))
      else
        some (-1:Int32)
def m_Rd_skipBlanks_j39 (n : Nat) (x1 : Int32) (Rd : SRd) : Option (Nat × Int32 × SRd) :=
  o_nm (x1 + (1:Int32)) fun x1_49 =>
  some (0, x1_49, (Rd_mk (Rd_words Rd) (Rd_wordCount Rd) ((Rd_position Rd) + (1:Int32)) (Rd_limit Rd) (Rd_wrongPlace Rd)))
def m_Rd_skipBlanks_b2 (n : Nat) (z : Int32 × SRd) : Option (Nat × Int32 × SRd) :=
  if (8192:Int32) ≤ z.1 then
    some (2, z.1, z.2)
  else
    o_bd (m_Rd_peek z.2) fun q1 =>
    if q1 = (9:Int32) then
      m_Rd_skipBlanks_j39 n z.1 z.2
    else
      if q1 = (10:Int32) then
        m_Rd_skipBlanks_j39 n z.1 z.2
      else
        if q1 = (13:Int32) then
          m_Rd_skipBlanks_j39 n z.1 z.2
        else
          if q1 = (32:Int32) then
            m_Rd_skipBlanks_j39 n z.1 z.2
          else
            some (1, z.1, z.2)
def m_Rd_skipBlanks (n : Nat) (Rd : SRd) : Option (SRd) :=
  o_bd (o_lp n (m_Rd_skipBlanks_b2 n) ((0:Int32), Rd)) fun q2 =>
  if q2.1 = 1 then
    some q2.2.2
  else
  some q2.2.2
def m_SJ_isDigit (x0 : Int32) : Option (Int32) :=
  if x0 < (48:Int32) then
    some (0:Int32)
  else
    if (57:Int32) < x0 then
      some (0:Int32)
    else
      some (1:Int32)
def m_Rd_kindThatBegins (x0 : Int32) : Option (Int32) :=
  if x0 = (34:Int32) then
    some (4:Int32)
  else
  if x0 = (91:Int32) then
    some (5:Int32)
  else
  if x0 = (102:Int32) then
    some (1:Int32)
  else
  if x0 = (110:Int32) then
    some (0:Int32)
  else
  if x0 = (116:Int32) then
    some (2:Int32)
  else
  if x0 = (123:Int32) then
    some (6:Int32)
  else
  if x0 = (45:Int32) then
    some (3:Int32)
  else
    o_bd (m_SJ_isDigit x0) fun q1 =>
    if q1 = 0 then
      some (-1:Int32)
    else
      some (3:Int32)
def m_Rd_refuse (x1 : Int32) (Rd : SRd) : Option (Int32 × SRd) :=
  some ((0:Int32), (Rd_mk (Rd_words Rd) (Rd_wordCount Rd) (Rd_position Rd) (Rd_limit Rd) x1))
def m_Tx_begin (x1 : Int32) (x2 : Int32) (x3 : Int32) (x4 : Int32) (a0 : STx) : Option (Int32 × STx) :=
  if (Tx_total a0) < (1000:Int32) then
    o_nm (Tx_total a0) fun x5_16 =>
    o_gd (o_in x5_16 1000) <|
    o_gd (o_in x5_16 1000) <|
    o_gd (o_in x5_16 1000) <|
    o_gd (o_in x5_16 1000) <|
    o_gd (o_in x5_16 1000) <|
    o_gd (o_in x5_16 1000) <|
    o_gd (o_in x5_16 1000) <|
    o_gd (o_in x5_16 1000) <|
    o_gd (o_in x5_16 1000) <|
    some (x5_16, (Tx_mk (upd (Tx_kinds a0) x5_16.toNatClampNeg x1) (upd (Tx_places a0) x5_16.toNatClampNeg x2) (upd (Tx_sizes a0) x5_16.toNatClampNeg (0:Int32)) (upd (Tx_parents a0) x5_16.toNatClampNeg x3) (upd (Tx_exponents a0) x5_16.toNatClampNeg (0:Int32)) (upd (Tx_starts a0) x5_16.toNatClampNeg (Tx_used a0)) (upd (Tx_afters a0) x5_16.toNatClampNeg ((Tx_total a0) + (1:Int32))) (upd (Tx_slots a0) x5_16.toNatClampNeg x4) (upd (Tx_negatives a0) x5_16.toNatClampNeg (vp_nar .boolean (0:Int32))) (Tx_cells a0) ((Tx_total a0) + (1:Int32)) (Tx_used a0) (Tx_characters a0)))
  else
    some ((-1:Int32), a0)
def m_JS_coder (x0 : Nat) : Option (Int32) :=
  if (1:Int32) = 0 then
    o_gd (o_nr .byte (1:Int32)) <|
    some (1:Int32)
  else
    o_gd (o_nr .byte (0:Int32)) <|
    some (0:Int32)
def m_JS_length (x0 : Nat) : Option (Int32) :=
  o_bd (m_JS_coder x0) fun q1 =>
  some ((o_sl x0) >>> (q1 &&& 31))
def m_JS_isLatin1 (x0 : Nat) : Option (Int32) :=
  if (1:Int32) = 0 then
    some (0:Int32)
  else
    if (0:Int32) = 0 then
      some (1:Int32)
    else
      some (0:Int32)
def m_JL_charAt (x0 : Nat) (x1 : Int32) : Option (Int32) :=
  o_gd (o_ck x1 (o_sl x0)) <|
  o_gd (o_in x1 (o_slen.getD x0 0)) <|
  o_gd (o_nr .char ((((o_sa x0 x1.toNatClampNeg) &&& (255:Int32)).toUInt32 % 65536).toInt32)) <|
  some ((((o_sa x0 x1.toNatClampNeg) &&& (255:Int32)).toUInt32 % 65536).toInt32)
def m_JS_charAt (x0 : Nat) (x1 : Int32) : Option (Int32) :=
  o_bd (m_JS_isLatin1 x0) fun q1 =>
  if q1 = 0 then
    none
  else
    o_bd (m_JL_charAt x0 x1) fun q2 =>
    o_gd (o_nr .char q2) <|
    some q2
def m_Rd_readWord_b2 (n : Nat) (x1 : Nat) (z : Int32 × SRd) : Option (Nat × Int32 × SRd) :=
  o_bd (m_JS_length x1) fun q1 =>
  if q1 ≤ z.1 then
    some (2, z.1, z.2)
  else
    o_bd (m_Rd_peek z.2) fun q2 =>
    o_bd (m_JS_charAt x1 z.1) fun q3 =>
    if q2 = q3 then
      o_nm (z.1 + (1:Int32)) fun x2_41 =>
      some (0, x2_41, (Rd_mk (Rd_words z.2) (Rd_wordCount z.2) ((Rd_position z.2) + (1:Int32)) (Rd_limit z.2) (Rd_wrongPlace z.2)))
    else
      some (1, z.1, z.2)
def m_Rd_readWord (n : Nat) (x1 : Nat) (Rd : SRd) : Option (Int32 × SRd) :=
  o_bd (o_lp n (m_Rd_readWord_b2 n x1) ((0:Int32), Rd)) fun q4 =>
  if q4.1 = 1 then
    o_bd (m_Rd_refuse (Rd_position q4.2.2) q4.2.2) fun q5 =>
    o_gd (o_zb q5.1) <|
    some (q5.1, q5.2)
  else
  some ((1:Int32), q4.2.2)
def m_Tx_addDigit (x1 : Int32) (a0 : STx) : Option (STx) :=
  if (8192:Int32) ≤ (Tx_used a0) then
    some a0
  else
    o_gd (o_in (Tx_used a0) 8192) <|
    some (Tx_mk (Tx_kinds a0) (Tx_places a0) (Tx_sizes a0) (Tx_parents a0) (Tx_exponents a0) (Tx_starts a0) (Tx_afters a0) (Tx_slots a0) (Tx_negatives a0) (upd (Tx_cells a0) (Tx_used a0).toNatClampNeg x1) (Tx_total a0) ((Tx_used a0) + (1:Int32)) (Tx_characters a0))
def m_Rd_readDigits_b2 (n : Nat) (x1 : Int32) (z : Int32 × STx × SRd) : Option (Nat × Int32 × STx × SRd) :=
  if x1 ≤ z.1 then
    some (2, z.1, z.2.1, z.2.2)
  else
    o_bd (m_Rd_peek z.2.2) fun q1 =>
    o_bd (m_SJ_isDigit q1) fun q2 =>
    if q2 = 0 then
      some (1, z.1, z.2.1, z.2.2)
    else
      o_bd (m_Tx_addDigit (q1 - (48:Int32)) z.2.1) fun q3 =>
      o_nm (z.1 + (1:Int32)) fun x2_42 =>
      some (0, x2_42, q3, (Rd_mk (Rd_words z.2.2) (Rd_wordCount z.2.2) ((Rd_position z.2.2) + (1:Int32)) (Rd_limit z.2.2) (Rd_wrongPlace z.2.2)))
def m_Rd_readDigits (n : Nat) (x1 : Int32) (tc : STx) (Rd : SRd) : Option (Int32 × STx × SRd) :=
  o_bd (o_lp n (m_Rd_readDigits_b2 n x1) ((0:Int32), tc, Rd)) fun q4 =>
  if q4.1 = 1 then
    some (q4.2.1, q4.2.2.1, q4.2.2.2)
  else
  some (x1, q4.2.2.1, q4.2.2.2)
def m_Rd_readExponent_j40 (n : Nat) (x1 : Int32) (x2 : Int32) (Rd : SRd) : Option (Nat × Int32 × Int32 × SRd) :=
  o_nm (x2 + (1:Int32)) fun x2_50 =>
  some (0, x1, x2_50, (Rd_mk (Rd_words Rd) (Rd_wordCount Rd) ((Rd_position Rd) + (1:Int32)) (Rd_limit Rd) (Rd_wrongPlace Rd)))
def m_Rd_readExponent_b4 (n : Nat) (z : Int32 × Int32 × SRd) : Option (Nat × Int32 × Int32 × SRd) :=
  if (8192:Int32) ≤ z.2.1 then
    some (2, z.1, z.2.1, z.2.2)
  else
    o_bd (m_Rd_peek z.2.2) fun q1 =>
    o_bd (m_SJ_isDigit q1) fun q2 =>
    if q2 = 0 then
      some (1, z.1, z.2.1, z.2.2)
    else
      if (3:Int32) ≤ z.2.1 then
        m_Rd_readExponent_j40 n z.1 z.2.1 z.2.2
      else
        o_nm (((z.1 * (10:Int32)) + q1) - (48:Int32)) fun x1_39 =>
        m_Rd_readExponent_j40 n x1_39 z.2.1 z.2.2
def m_Rd_readExponent (n : Nat) (Rd : SRd) : Option (Int32 × SRd) :=
  o_bd (o_lp n (m_Rd_readExponent_b4 n) ((0:Int32), (0:Int32), Rd)) fun q3 =>
  if q3.1 = 1 then
    some (q3.2.1, q3.2.2.2)
  else
  some (q3.2.1, q3.2.2.2)
def m_Tx_endNumber_b27 (n : Nat) (x1 : Int32) (x2 : Int32) (x3 : Int32) (x4 : Int32) (a0 : STx) (z : Int32) : Option (Nat × Int32) :=
  if z ≤ x4 then
    some (1, z)
  else
    o_gd (o_in (z - (1:Int32)) 8192) <|
    if ((Tx_cells a0) (z - (1:Int32)).toNatClampNeg) = 0 then
      o_nm (z + (-1:Int32)) fun x5_46 =>
      some (0, x5_46)
    else
      some (1, z)
def m_Tx_endNumber_b52 (n : Nat) (x1 : Int32) (x2 : Int32) (x3 : Int32) (x5 : Int32) (a0 : STx) (z : Int32) : Option (Nat × Int32) :=
  if x5 ≤ z then
    some (1, z)
  else
    o_gd (o_in z 8192) <|
    if ((Tx_cells a0) z.toNatClampNeg) = 0 then
      o_nm (z + (1:Int32)) fun x4_69 =>
      some (0, x4_69)
    else
      some (1, z)
def m_Tx_endNumber_j119 (n : Nat) (x1 : Int32) (x2 : Int32) (x4 : Int32) (x5 : Int32) (y1 : Int32) (y2 : Int32) (a0 : STx) : Option (STx) :=
  o_gd (o_in y1 1000) <|
  if x2 = 0 then
    o_gd (o_in x1 1000) <|
    some (Tx_mk (Tx_kinds a0) (Tx_places a0) (Tx_sizes a0) (Tx_parents a0) (upd (Tx_exponents a0) y1.toNatClampNeg y2) (Tx_starts a0) (Tx_afters a0) (Tx_slots a0) (upd (Tx_negatives a0) x1.toNatClampNeg (vp_nar .boolean (0:Int32))) (Tx_cells a0) (Tx_total a0) (Tx_used a0) (Tx_characters a0))
  else
    if x5 ≤ x4 then
      o_gd (o_in x1 1000) <|
      some (Tx_mk (Tx_kinds a0) (Tx_places a0) (Tx_sizes a0) (Tx_parents a0) (upd (Tx_exponents a0) y1.toNatClampNeg y2) (Tx_starts a0) (Tx_afters a0) (Tx_slots a0) (upd (Tx_negatives a0) x1.toNatClampNeg (vp_nar .boolean (0:Int32))) (Tx_cells a0) (Tx_total a0) (Tx_used a0) (Tx_characters a0))
    else
      o_gd (o_in x1 1000) <|
      some (Tx_mk (Tx_kinds a0) (Tx_places a0) (Tx_sizes a0) (Tx_parents a0) (upd (Tx_exponents a0) y1.toNatClampNeg y2) (Tx_starts a0) (Tx_afters a0) (Tx_slots a0) (upd (Tx_negatives a0) x1.toNatClampNeg (vp_nar .boolean (1:Int32))) (Tx_cells a0) (Tx_total a0) (Tx_used a0) (Tx_characters a0))
def m_Tx_endNumber_j75 (n : Nat) (x1 : Int32) (x2 : Int32) (x3 : Int32) (x4 : Int32) (x5 : Int32) (a0 : STx) : Option (STx) :=
  o_gd (o_in x1 1000) <|
  o_gd (o_in x1 1000) <|
  if x5 = x4 then
    m_Tx_endNumber_j119 n x1 x2 x4 x5 x1 (0:Int32) (Tx_mk (Tx_kinds a0) (Tx_places a0) (upd (Tx_sizes a0) x1.toNatClampNeg (x5 - x4)) (Tx_parents a0) (Tx_exponents a0) (upd (Tx_starts a0) x1.toNatClampNeg x4) (Tx_afters a0) (Tx_slots a0) (Tx_negatives a0) (Tx_cells a0) (Tx_total a0) (Tx_used a0) (Tx_characters a0))
  else
    m_Tx_endNumber_j119 n x1 x2 x4 x5 x1 ((x3 + (Tx_used a0)) - x5) (Tx_mk (Tx_kinds a0) (Tx_places a0) (upd (Tx_sizes a0) x1.toNatClampNeg (x5 - x4)) (Tx_parents a0) (Tx_exponents a0) (upd (Tx_starts a0) x1.toNatClampNeg x4) (Tx_afters a0) (Tx_slots a0) (Tx_negatives a0) (Tx_cells a0) (Tx_total a0) (Tx_used a0) (Tx_characters a0))
def m_Tx_endNumber (n : Nat) (x1 : Int32) (x2 : Int32) (x3 : Int32) (a0 : STx) : Option (STx) :=
  if x1 < 0 then
    some a0
  else
    if x1 < (Tx_total a0) then
      o_gd (o_in x1 1000) <|
      o_nm ((Tx_starts a0) x1.toNatClampNeg) fun x4_19 =>
      o_nm (Tx_used a0) fun x5_25 =>
      o_bd (o_lp n (m_Tx_endNumber_b27 n x1 x2 x3 x4_19 a0) (x5_25)) fun q1 =>
      o_bd (o_lp n (m_Tx_endNumber_b52 n x1 x2 x3 q1.2 a0) (x4_19)) fun q2 =>
      m_Tx_endNumber_j75 n x1 x2 x3 q2.2 q1.2 a0
    else
      some a0
def m_Rd_readNumber_j275 (n : Nat) (x1 : Int32) (x2 : Int32) (x3 : Int32) (x5 : Int32) (x6 : Int32) (x7 : Int32) (tc : STx) (Rd : SRd) : Option (Int32 × STx × SRd) :=
  if x6 = 0 then
    o_bd (m_Rd_refuse x2 Rd) fun q9 =>
    o_gd (o_zb q9.1) <|
    some (q9.1, tc, q9.2)
  else
    o_bd (m_Tx_endNumber n x1 x3 (x7 - x5) tc) fun q8 =>
    some ((1:Int32), q8, Rd)
def m_Rd_readNumber_j258 (n : Nat) (x1 : Int32) (x2 : Int32) (x3 : Int32) (x5 : Int32) (x7 : Int32) (x8 : Int32) (y0 : Int32) (tc : STx) (Rd : SRd) : Option (Int32 × STx × SRd) :=
  if x8 = 0 then
    m_Rd_readNumber_j275 n x1 x2 x3 x5 y0 x7 tc Rd
  else
    o_nm (-x7) fun x7_273 =>
    m_Rd_readNumber_j275 n x1 x2 x3 x5 y0 x7_273 tc Rd
def m_Rd_readNumber_j207 (n : Nat) (x1 : Int32) (x2 : Int32) (x3 : Int32) (x5 : Int32) (x6 : Int32) (x8 : Int32) (tc : STx) (Rd : SRd) : Option (Int32 × STx × SRd) :=
  o_nm (Rd_position Rd) fun x9_211 =>
  o_bd (m_Rd_readExponent n Rd) fun q7 =>
  if (Rd_position q7.2) = x9_211 then
    o_bd (m_Rd_refuse (Rd_position q7.2) q7.2) fun q10 =>
    o_gd (o_zb q10.1) <|
    some (q10.1, tc, q10.2)
  else
    if x6 = 0 then
      m_Rd_readNumber_j258 n x1 x2 x3 x5 q7.1 x8 (0:Int32) tc q7.2
    else
      if (3:Int32) < ((Rd_position q7.2) - x9_211) then
        m_Rd_readNumber_j258 n x1 x2 x3 x5 q7.1 x8 (0:Int32) tc q7.2
      else
        m_Rd_readNumber_j258 n x1 x2 x3 x5 q7.1 x8 (1:Int32) tc q7.2
def m_Rd_readNumber_j197 (n : Nat) (x1 : Int32) (x2 : Int32) (x3 : Int32) (x5 : Int32) (x6 : Int32) (x8 : Int32) (tc : STx) (Rd : SRd) : Option (Int32 × STx × SRd) :=
  m_Rd_readNumber_j207 n x1 x2 x3 x5 x6 x8 tc (Rd_mk (Rd_words Rd) (Rd_wordCount Rd) ((Rd_position Rd) + (1:Int32)) (Rd_limit Rd) (Rd_wrongPlace Rd))
def m_Rd_readNumber_j181 (n : Nat) (x1 : Int32) (x2 : Int32) (x3 : Int32) (x5 : Int32) (x6 : Int32) (y0 : Int32) (tc : STx) (Rd : SRd) : Option (Int32 × STx × SRd) :=
  if y0 = 0 then
    o_bd (m_Rd_peek Rd) fun q11 =>
    if q11 = (43:Int32) then
      m_Rd_readNumber_j197 n x1 x2 x3 x5 x6 y0 tc Rd
    else
      m_Rd_readNumber_j207 n x1 x2 x3 x5 x6 y0 tc Rd
  else
    m_Rd_readNumber_j197 n x1 x2 x3 x5 x6 y0 tc Rd
def m_Rd_readNumber_j157 (n : Nat) (x1 : Int32) (x2 : Int32) (x3 : Int32) (x5 : Int32) (x6 : Int32) (tc : STx) (Rd : SRd) : Option (Int32 × STx × SRd) :=
  o_bd (m_Rd_peek (Rd_mk (Rd_words Rd) (Rd_wordCount Rd) ((Rd_position Rd) + (1:Int32)) (Rd_limit Rd) (Rd_wrongPlace Rd))) fun q6 =>
  if q6 = (45:Int32) then
    m_Rd_readNumber_j181 n x1 x2 x3 x5 x6 (1:Int32) tc (Rd_mk (Rd_words Rd) (Rd_wordCount Rd) ((Rd_position Rd) + (1:Int32)) (Rd_limit Rd) (Rd_wrongPlace Rd))
  else
    m_Rd_readNumber_j181 n x1 x2 x3 x5 x6 (0:Int32) tc (Rd_mk (Rd_words Rd) (Rd_wordCount Rd) ((Rd_position Rd) + (1:Int32)) (Rd_limit Rd) (Rd_wrongPlace Rd))
def m_Rd_readNumber_j134 (n : Nat) (x1 : Int32) (x2 : Int32) (x3 : Int32) (x5 : Int32) (y0 : Int32) (tc : STx) (Rd : SRd) : Option (Int32 × STx × SRd) :=
  o_bd (m_Rd_peek Rd) fun q5 =>
  if q5 = (101:Int32) then
    m_Rd_readNumber_j157 n x1 x2 x3 x5 y0 tc Rd
  else
    o_bd (m_Rd_peek Rd) fun q12 =>
    if q12 = (69:Int32) then
      m_Rd_readNumber_j157 n x1 x2 x3 x5 y0 tc Rd
    else
      m_Rd_readNumber_j275 n x1 x2 x3 x5 y0 (0:Int32) tc Rd
def m_Rd_readNumber_j119 (n : Nat) (x1 : Int32) (x2 : Int32) (x3 : Int32) (x4 : Int32) (x5 : Int32) (tc : STx) (Rd : SRd) : Option (Int32 × STx × SRd) :=
  if (60:Int32) < (x4 + x5) then
    m_Rd_readNumber_j134 n x1 x2 x3 x5 (0:Int32) tc Rd
  else
    m_Rd_readNumber_j134 n x1 x2 x3 x5 (1:Int32) tc Rd
def m_Rd_readNumber_j58 (n : Nat) (x1 : Int32) (x2 : Int32) (x3 : Int32) (y0 : Int32) (tc : STx) (Rd : SRd) : Option (Int32 × STx × SRd) :=
  if y0 = 0 then
    o_bd (m_Rd_refuse (Rd_position Rd) Rd) fun q15 =>
    o_gd (o_zb q15.1) <|
    some (q15.1, tc, q15.2)
  else
    o_bd (m_Rd_peek Rd) fun q4 =>
    if q4 = (46:Int32) then
      o_bd (m_Rd_readDigits n (8192:Int32) tc (Rd_mk (Rd_words Rd) (Rd_wordCount Rd) ((Rd_position Rd) + (1:Int32)) (Rd_limit Rd) (Rd_wrongPlace Rd))) fun q13 =>
      if q13.1 = 0 then
        o_bd (m_Rd_refuse (Rd_position q13.2.2) q13.2.2) fun q14 =>
        o_gd (o_zb q14.1) <|
        some (q14.1, q13.2.1, q14.2)
      else
        m_Rd_readNumber_j119 n x1 x2 x3 y0 q13.1 q13.2.1 q13.2.2
    else
      m_Rd_readNumber_j119 n x1 x2 x3 y0 (0:Int32) tc Rd
def m_Rd_readNumber_j34 (n : Nat) (x1 : Int32) (x2 : Int32) (x3 : Int32) (tc : STx) (Rd : SRd) : Option (Int32 × STx × SRd) :=
  o_bd (m_Rd_peek Rd) fun q2 =>
  if q2 = (48:Int32) then
    o_bd (m_Rd_readDigits n (1:Int32) tc Rd) fun q16 =>
    m_Rd_readNumber_j58 n x1 x2 x3 q16.1 q16.2.1 q16.2.2
  else
    o_bd (m_Rd_readDigits n (8192:Int32) tc Rd) fun q3 =>
    m_Rd_readNumber_j58 n x1 x2 x3 q3.1 q3.2.1 q3.2.2
def m_Rd_readNumber_j19 (n : Nat) (x1 : Int32) (x2 : Int32) (y0 : Int32) (tc : STx) (Rd : SRd) : Option (Int32 × STx × SRd) :=
  if y0 = 0 then
    m_Rd_readNumber_j34 n x1 x2 y0 tc Rd
  else
    m_Rd_readNumber_j34 n x1 x2 y0 tc (Rd_mk (Rd_words Rd) (Rd_wordCount Rd) ((Rd_position Rd) + (1:Int32)) (Rd_limit Rd) (Rd_wrongPlace Rd))
def m_Rd_readNumber (n : Nat) (x1 : Int32) (tc : STx) (Rd : SRd) : Option (Int32 × STx × SRd) :=
  o_nm (Rd_position Rd) fun x2_4 =>
  o_bd (m_Rd_peek Rd) fun q1 =>
  if q1 = (45:Int32) then
    m_Rd_readNumber_j19 n x1 x2_4 (1:Int32) tc Rd
  else
    m_Rd_readNumber_j19 n x1 x2_4 (0:Int32) tc Rd
def m_Tx_endString (x1 : Int32) (a0 : STx) : Option (STx) :=
  if x1 < 0 then
    some a0
  else
    if (Tx_total a0) ≤ x1 then
      some a0
    else
      o_gd (o_in x1 1000) <|
      o_gd (o_in x1 1000) <|
      some (Tx_mk (Tx_kinds a0) (Tx_places a0) (upd (Tx_sizes a0) x1.toNatClampNeg ((Tx_used a0) - ((Tx_starts a0) x1.toNatClampNeg))) (Tx_parents a0) (Tx_exponents a0) (Tx_starts a0) (Tx_afters a0) (Tx_slots a0) (Tx_negatives a0) (Tx_cells a0) (Tx_total a0) (Tx_used a0) (Tx_characters a0))
def m_Rd_readShortEscape (x1 : Int32) (Rd : SRd) : Option (Int32 × SRd) :=
  o_nm (Rd_position Rd) fun x2_4 =>
  if x1 = (34:Int32) then
    some (x1, (Rd_mk (Rd_words Rd) (Rd_wordCount Rd) ((Rd_position Rd) + (1:Int32)) (Rd_limit Rd) (Rd_wrongPlace Rd)))
  else
  if x1 = (47:Int32) then
    some (x1, (Rd_mk (Rd_words Rd) (Rd_wordCount Rd) ((Rd_position Rd) + (1:Int32)) (Rd_limit Rd) (Rd_wrongPlace Rd)))
  else
  if x1 = (92:Int32) then
    some (x1, (Rd_mk (Rd_words Rd) (Rd_wordCount Rd) ((Rd_position Rd) + (1:Int32)) (Rd_limit Rd) (Rd_wrongPlace Rd)))
  else
  if x1 = (98:Int32) then
    some ((8:Int32), (Rd_mk (Rd_words Rd) (Rd_wordCount Rd) ((Rd_position Rd) + (1:Int32)) (Rd_limit Rd) (Rd_wrongPlace Rd)))
  else
  if x1 = (102:Int32) then
    some ((12:Int32), (Rd_mk (Rd_words Rd) (Rd_wordCount Rd) ((Rd_position Rd) + (1:Int32)) (Rd_limit Rd) (Rd_wrongPlace Rd)))
  else
  if x1 = (110:Int32) then
    some ((10:Int32), (Rd_mk (Rd_words Rd) (Rd_wordCount Rd) ((Rd_position Rd) + (1:Int32)) (Rd_limit Rd) (Rd_wrongPlace Rd)))
  else
  if x1 = (114:Int32) then
    some ((13:Int32), (Rd_mk (Rd_words Rd) (Rd_wordCount Rd) ((Rd_position Rd) + (1:Int32)) (Rd_limit Rd) (Rd_wrongPlace Rd)))
  else
  if x1 = (116:Int32) then
    some ((9:Int32), (Rd_mk (Rd_words Rd) (Rd_wordCount Rd) ((Rd_position Rd) + (1:Int32)) (Rd_limit Rd) (Rd_wrongPlace Rd)))
  else
  o_bd (m_Rd_refuse x2_4 (Rd_mk (Rd_words Rd) (Rd_wordCount Rd) ((Rd_position Rd) + (1:Int32)) (Rd_limit Rd) (Rd_wrongPlace Rd))) fun q1 =>
  some ((-1:Int32), q1.2)
def m_SJ_hexDigit_j37 (x0 : Int32) : Option (Int32) :=
  if x0 < (65:Int32) then
    some (-1:Int32)
  else
    if (70:Int32) < x0 then
      some (-1:Int32)
    else
      some ((x0 - (65:Int32)) + (10:Int32))
def m_SJ_hexDigit_j17 (x0 : Int32) : Option (Int32) :=
  if x0 < (97:Int32) then
    m_SJ_hexDigit_j37 x0
  else
    if (102:Int32) < x0 then
      m_SJ_hexDigit_j37 x0
    else
      some ((x0 - (97:Int32)) + (10:Int32))
def m_SJ_hexDigit (x0 : Int32) : Option (Int32) :=
  if x0 < (48:Int32) then
    m_SJ_hexDigit_j17 x0
  else
    if (57:Int32) < x0 then
      m_SJ_hexDigit_j17 x0
    else
      some (x0 - (48:Int32))
def m_Rd_readHex_b4 (n : Nat) (z : Int32 × Int32 × SRd) : Option (Nat × Int32 × Int32 × SRd) :=
  if (4:Int32) ≤ z.2.1 then
    some (2, z.1, z.2.1, z.2.2)
  else
    o_bd (m_Rd_peek z.2.2) fun q1 =>
    o_bd (m_SJ_hexDigit q1) fun q2 =>
    if q2 = (-1:Int32) then
      some (1, z.1, z.2.1, z.2.2)
    else
      o_nm ((z.1 * (16:Int32)) + q2) fun x1_39 =>
      o_nm (z.2.1 + (1:Int32)) fun x2_50 =>
      some (0, x1_39, x2_50, (Rd_mk (Rd_words z.2.2) (Rd_wordCount z.2.2) ((Rd_position z.2.2) + (1:Int32)) (Rd_limit z.2.2) (Rd_wrongPlace z.2.2)))
def m_Rd_readHex (n : Nat) (Rd : SRd) : Option (Int32 × SRd) :=
  o_bd (o_lp n (m_Rd_readHex_b4 n) ((0:Int32), (0:Int32), Rd)) fun q3 =>
  if q3.1 = 1 then
    o_bd (m_Rd_refuse (Rd_position q3.2.2.2) q3.2.2.2) fun q4 =>
    some ((-1:Int32), q4.2)
  else
  some (q3.2.1, q3.2.2.2)
def m_SJ_isSurrogate (x0 : Int32) : Option (Int32) :=
  if x0 < (55296:Int32) then
    some (0:Int32)
  else
    if (57343:Int32) < x0 then
      some (0:Int32)
    else
      some (1:Int32)
def m_Rd_readEscape_j123 (n : Nat) (x1 : Int32) (Rd : SRd) : Option (Int32 × SRd) :=
  o_bd (m_Rd_refuse x1 Rd) fun q4 =>
  some ((-1:Int32), q4.2)
def m_Rd_readEscape_j109 (n : Nat) (x1 : Int32) (x3 : Int32) (x4 : Int32) (Rd : SRd) : Option (Int32 × SRd) :=
  if x4 < (56320:Int32) then
    m_Rd_readEscape_j123 n x1 Rd
  else
    if x4 ≤ (57343:Int32) then
      some ((((65536:Int32) + ((x3 - (55296:Int32)) <<< ((10:Int32) &&& 31))) + (x4 - (56320:Int32))), Rd)
    else
      m_Rd_readEscape_j123 n x1 Rd
def m_Rd_readEscape (n : Nat) (Rd : SRd) : Option (Int32 × SRd) :=
  o_nm (Rd_position Rd) fun x1_4 =>
  o_bd (m_Rd_peek (Rd_mk (Rd_words Rd) (Rd_wordCount Rd) ((Rd_position Rd) + (1:Int32)) (Rd_limit Rd) (Rd_wrongPlace Rd))) fun q1 =>
  if q1 = (117:Int32) then
    o_bd (m_Rd_readHex n (Rd_mk (Rd_words Rd) (Rd_wordCount Rd) (((Rd_position Rd) + (1:Int32)) + (1:Int32)) (Rd_limit Rd) (Rd_wrongPlace Rd))) fun q2 =>
    o_bd (m_SJ_isSurrogate q2.1) fun q3 =>
    if q3 = 0 then
      some (q2.1, q2.2)
    else
      if (56320:Int32) ≤ q2.1 then
        m_Rd_readEscape_j109 n x1_4 q2.1 (-1:Int32) q2.2
      else
        o_bd (m_Rd_peek q2.2) fun q5 =>
        if q5 = (92:Int32) then
          o_bd (m_Rd_peek (Rd_mk (Rd_words q2.2) (Rd_wordCount q2.2) ((Rd_position q2.2) + (1:Int32)) (Rd_limit q2.2) (Rd_wrongPlace q2.2))) fun q6 =>
          if q6 = (117:Int32) then
            o_bd (m_Rd_readHex n (Rd_mk (Rd_words q2.2) (Rd_wordCount q2.2) (((Rd_position q2.2) + (1:Int32)) + (1:Int32)) (Rd_limit q2.2) (Rd_wrongPlace q2.2))) fun q7 =>
            m_Rd_readEscape_j109 n x1_4 q2.1 q7.1 q7.2
          else
            m_Rd_readEscape_j109 n x1_4 q2.1 (-1:Int32) (Rd_mk (Rd_words q2.2) (Rd_wordCount q2.2) ((Rd_position q2.2) + (1:Int32)) (Rd_limit q2.2) (Rd_wrongPlace q2.2))
        else
          m_Rd_readEscape_j109 n x1_4 q2.1 (-1:Int32) q2.2
  else
    o_bd (m_Rd_readShortEscape q1 (Rd_mk (Rd_words Rd) (Rd_wordCount Rd) ((Rd_position Rd) + (1:Int32)) (Rd_limit Rd) (Rd_wrongPlace Rd))) fun q8 =>
    some (q8.1, q8.2)
def m_SJ_utf8Tail_j45 (x0 : Int32) : Option (Int32) :=
  if x0 < (240:Int32) then
    some (-1:Int32)
  else
    if (244:Int32) < x0 then
      some (-1:Int32)
    else
      some (3:Int32)
def m_SJ_utf8Tail_j29 (x0 : Int32) : Option (Int32) :=
  if x0 < (224:Int32) then
    m_SJ_utf8Tail_j45 x0
  else
    if (239:Int32) < x0 then
      m_SJ_utf8Tail_j45 x0
    else
      some (2:Int32)
def m_SJ_utf8Tail_j13 (x0 : Int32) : Option (Int32) :=
  if x0 < (194:Int32) then
    m_SJ_utf8Tail_j29 x0
  else
    if (223:Int32) < x0 then
      m_SJ_utf8Tail_j29 x0
    else
      some (1:Int32)
def m_SJ_utf8Tail (x0 : Int32) : Option (Int32) :=
  if x0 < 0 then
    m_SJ_utf8Tail_j13 x0
  else
    if (128:Int32) ≤ x0 then
      m_SJ_utf8Tail_j13 x0
    else
      some (0:Int32)
def m_SJ_utf8Head (x0 : Int32) (x1 : Int32) : Option (Int32) :=
  if x1 = 0 then
    some x0
  else
    some (x0 &&& ((63:Int32) >>> (x1 &&& 31)))
def m_SJ_utf8Follows (x0 : Int32) : Option (Int32) :=
  if x0 < (128:Int32) then
    some (0:Int32)
  else
    if (191:Int32) < x0 then
      some (0:Int32)
    else
      some (1:Int32)
def m_SJ_utf8Legal_j30 (x0 : Int32) (y0 : Int32) : Option (Int32) :=
  if x0 < y0 then
    some (0:Int32)
  else
    if (1114111:Int32) < x0 then
      some (0:Int32)
    else
      o_bd (m_SJ_isSurrogate x0) fun q1 =>
      if q1 = 0 then
        some (1:Int32)
      else
        some (0:Int32)
def m_SJ_utf8Legal (x0 : Int32) (x1 : Int32) : Option (Int32) :=
  if x1 = 0 then
    some (1:Int32)
  else
    if x1 = (1:Int32) then
      m_SJ_utf8Legal_j30 x0 (128:Int32)
    else
      if x1 = (2:Int32) then
        m_SJ_utf8Legal_j30 x0 (2048:Int32)
      else
        m_SJ_utf8Legal_j30 x0 (65536:Int32)
def m_Rd_readCharacter_j26 (n : Nat) (x1 : Int32) (Rd : SRd) : Option (Int32 × SRd) :=
  o_bd (m_Rd_refuse x1 Rd) fun q3 =>
  some ((-1:Int32), q3.2)
def m_Rd_readCharacter_b54 (n : Nat) (x1 : Int32) (x3 : Int32) (z : Int32 × Int32 × SRd) : Option (Nat × Int32 × Int32 × SRd) :=
  if x3 ≤ z.2.1 then
    some (2, z.1, z.2.1, z.2.2)
  else
    o_bd (m_Rd_peek z.2.2) fun q5 =>
    o_bd (m_SJ_utf8Follows q5) fun q6 =>
    if q6 = 0 then
      some (1, z.1, z.2.1, z.2.2)
    else
      o_nm ((z.1 <<< ((6:Int32) &&& 31)) ||| (q5 &&& (63:Int32))) fun x4_93 =>
      o_nm (z.2.1 + (1:Int32)) fun x5_105 =>
      some (0, x4_93, x5_105, (Rd_mk (Rd_words z.2.2) (Rd_wordCount z.2.2) ((Rd_position z.2.2) + (1:Int32)) (Rd_limit z.2.2) (Rd_wrongPlace z.2.2)))
def m_Rd_readCharacter (n : Nat) (Rd : SRd) : Option (Int32 × SRd) :=
  o_nm (Rd_position Rd) fun x1_4 =>
  o_bd (m_Rd_peek Rd) fun q1 =>
  o_bd (m_SJ_utf8Tail q1) fun q2 =>
  if q1 < (32:Int32) then
    m_Rd_readCharacter_j26 n x1_4 Rd
  else
    if q2 = (-1:Int32) then
      m_Rd_readCharacter_j26 n x1_4 Rd
    else
      o_bd (m_SJ_utf8Head q1 q2) fun q4 =>
      o_bd (o_lp n (m_Rd_readCharacter_b54 n x1_4 q2) (q4, (0:Int32), (Rd_mk (Rd_words Rd) (Rd_wordCount Rd) ((Rd_position Rd) + (1:Int32)) (Rd_limit Rd) (Rd_wrongPlace Rd)))) fun q7 =>
      if q7.1 = 1 then
        o_bd (m_Rd_refuse x1_4 q7.2.2.2) fun q8 =>
        some ((-1:Int32), q8.2)
      else
      o_bd (m_SJ_utf8Legal q7.2.1 q2) fun q9 =>
      if q9 = 0 then
        o_bd (m_Rd_refuse x1_4 q7.2.2.2) fun q10 =>
        some ((-1:Int32), q10.2)
      else
        some (q7.2.1, q7.2.2.2)
def m_Tx_addCharacter (x1 : Int32) (a0 : STx) : Option (Int32 × STx) :=
  if (4000:Int32) ≤ (Tx_characters a0) then
    some ((0:Int32), a0)
  else
    if (Tx_used a0) < (8192:Int32) then
      o_gd (o_in (Tx_used a0) 8192) <|
      some ((1:Int32), (Tx_mk (Tx_kinds a0) (Tx_places a0) (Tx_sizes a0) (Tx_parents a0) (Tx_exponents a0) (Tx_starts a0) (Tx_afters a0) (Tx_slots a0) (Tx_negatives a0) (upd (Tx_cells a0) (Tx_used a0).toNatClampNeg x1) (Tx_total a0) ((Tx_used a0) + (1:Int32)) ((Tx_characters a0) + (1:Int32))))
    else
      some ((0:Int32), a0)
def m_Rd_readString_j73 (n : Nat) (x1 : Int32) (x2 : Int32) (x4 : Int32) (y0 : Int32) (tc : STx) (Rd : SRd) : Option (Nat × Int32 × Int32 × STx × SRd) :=
  if y0 = (-1:Int32) then
    some (2, x2, x4, tc, Rd)
  else
    o_bd (m_Tx_addCharacter y0 tc) fun q3 =>
    if q3.1 = 0 then
      some (3, x2, x4, q3.2, Rd)
    else
      o_nm (x2 + (1:Int32)) fun x2_102 =>
      some (0, x2_102, x4, q3.2, Rd)
def m_Rd_readString_b12 (n : Nat) (x1 : Int32) (z : Int32 × Int32 × STx × SRd) : Option (Nat × Int32 × Int32 × STx × SRd) :=
  if (8192:Int32) < z.1 then
    some (4, z.1, (0:Int32), z.2.2.1, z.2.2.2)
  else
    o_bd (m_Rd_peek z.2.2.2) fun q1 =>
    if q1 = (34:Int32) then
      some (1, z.1, (0:Int32), z.2.2.1, z.2.2.2)
    else
      o_nm (Rd_position z.2.2.2) fun x4_54 =>
      if q1 = (92:Int32) then
        o_bd (m_Rd_readEscape n z.2.2.2) fun q4 =>
        m_Rd_readString_j73 n x1 z.1 x4_54 q4.1 z.2.2.1 q4.2
      else
        o_bd (m_Rd_readCharacter n z.2.2.2) fun q2 =>
        m_Rd_readString_j73 n x1 z.1 x4_54 q2.1 z.2.2.1 q2.2
def m_Rd_readString (n : Nat) (x1 : Int32) (tc : STx) (Rd : SRd) : Option (Int32 × STx × SRd) :=
  o_bd (o_lp n (m_Rd_readString_b12 n x1) ((0:Int32), (0:Int32), tc, (Rd_mk (Rd_words Rd) (Rd_wordCount Rd) ((Rd_position Rd) + (1:Int32)) (Rd_limit Rd) (Rd_wrongPlace Rd)))) fun q5 =>
  if q5.1 = 1 then
    o_bd (m_Tx_endString x1 q5.2.2.2.1) fun q6 =>
    some ((1:Int32), q6, (Rd_mk (Rd_words q5.2.2.2.2) (Rd_wordCount q5.2.2.2.2) ((Rd_position q5.2.2.2.2) + (1:Int32)) (Rd_limit q5.2.2.2.2) (Rd_wrongPlace q5.2.2.2.2)))
  else
  if q5.1 = 2 then
    some ((0:Int32), q5.2.2.2.1, q5.2.2.2.2)
  else
  if q5.1 = 3 then
    o_bd (m_Rd_refuse q5.2.2.1 q5.2.2.2.2) fun q7 =>
    o_gd (o_zb q7.1) <|
    some (q7.1, q5.2.2.2.1, q7.2)
  else
  o_bd (m_Rd_refuse (Rd_position q5.2.2.2.2) q5.2.2.2.2) fun q8 =>
  o_gd (o_zb q8.1) <|
  some (q8.1, q5.2.2.2.1, q8.2)
def m_Tx_endParent (x1 : Int32) (x2 : Int32) (a0 : STx) : Option (STx) :=
  if x1 < 0 then
    some a0
  else
    if (Tx_total a0) ≤ x1 then
      some a0
    else
      o_gd (o_in x1 1000) <|
      o_gd (o_in x1 1000) <|
      some (Tx_mk (Tx_kinds a0) (Tx_places a0) (upd (Tx_sizes a0) x1.toNatClampNeg x2) (Tx_parents a0) (Tx_exponents a0) (Tx_starts a0) (upd (Tx_afters a0) x1.toNatClampNeg (Tx_total a0)) (Tx_slots a0) (Tx_negatives a0) (Tx_cells a0) (Tx_total a0) (Tx_used a0) (Tx_characters a0))
def m_Rd_beginName_j31 (n : Nat) (y0 : Int32) (tc : STx) (Rd : SRd) : Option (Int32 × STx × SRd) :=
  if y0 = (-1:Int32) then
    o_bd (m_Rd_refuse (Rd_position Rd) Rd) fun q3 =>
    some (y0, tc, q3.2)
  else
    some (y0, tc, Rd)
def m_Rd_beginName (n : Nat) (x1 : Int32) (x2 : Int32) (tc : STx) (Rd : SRd) : Option (Int32 × STx × SRd) :=
  o_bd (m_Rd_skipBlanks n Rd) fun q1 =>
  o_bd (m_Rd_peek q1) fun q2 =>
  if q2 = (34:Int32) then
    o_bd (m_Tx_begin (4:Int32) (Rd_position q1) x1 x2 tc) fun q4 =>
    m_Rd_beginName_j31 n q4.1 q4.2 q1
  else
    m_Rd_beginName_j31 n (-1:Int32) tc q1
def m_Tx_firstChild (x1 : Int32) (a0 : STx) : Option (Int32) :=
  if x1 < 0 then
    some (-1:Int32)
  else
    if (Tx_total a0) ≤ x1 then
      some (-1:Int32)
    else
      o_gd (o_in x1 1000) <|
      if ((Tx_sizes a0) x1.toNatClampNeg) = 0 then
        some (-1:Int32)
      else
        o_gd (o_in x1 1000) <|
        if (5:Int32) ≤ ((Tx_kinds a0) x1.toNatClampNeg) then
          o_gd (o_in x1 1000) <|
          if ((Tx_kinds a0) x1.toNatClampNeg) = (5:Int32) then
            some (x1 + (1:Int32))
          else
            some (x1 + (2:Int32))
        else
          some (-1:Int32)
def m_Tx_size (x1 : Int32) (a0 : STx) : Option (Int32) :=
  if x1 < 0 then
    some (0:Int32)
  else
    if (Tx_total a0) ≤ x1 then
      some (0:Int32)
    else
      o_gd (o_in x1 1000) <|
      some ((Tx_sizes a0) x1.toNatClampNeg)
def m_Tx_sameString_b102 (n : Nat) (x4 : Int32) (x5 : Int32) (x6 : Int32) (a0 : STx) (a2 : STx) (z : Int32) : Option (Nat × Int32) :=
  if x6 ≤ z then
    some (2, z)
  else
    o_gd (o_in (x4 + z) 8192) <|
    o_gd (o_in (x5 + z) 8192) <|
    if ((Tx_cells a0) (x4 + z).toNatClampNeg) = ((Tx_cells a2) (x5 + z).toNatClampNeg) then
      o_nm (z + (1:Int32)) fun x7_134 =>
      some (0, x7_134)
    else
      some (1, z)
def m_Tx_sameString (n : Nat) (x1 : Int32) (x3 : Int32) (a0 : STx) (a2 : STx) : Option (Int32) :=
  if x1 < 0 then
    some (0:Int32)
  else
    if (Tx_total a0) ≤ x1 then
      some (0:Int32)
    else
      if x3 < 0 then
        some (0:Int32)
      else
        if (Tx_total a2) ≤ x3 then
          some (0:Int32)
        else
          o_gd (o_in x1 1000) <|
          o_gd (o_in x3 1000) <|
          if ((Tx_sizes a0) x1.toNatClampNeg) = ((Tx_sizes a2) x3.toNatClampNeg) then
            o_gd (o_in x1 1000) <|
            o_nm ((Tx_starts a0) x1.toNatClampNeg) fun x4_47 =>
            o_gd (o_in x3 1000) <|
            o_nm ((Tx_starts a2) x3.toNatClampNeg) fun x5_55 =>
            o_gd (o_in x1 1000) <|
            o_nm ((Tx_sizes a0) x1.toNatClampNeg) fun x6_63 =>
            if x4_47 < 0 then
              some (0:Int32)
            else
              if (8192:Int32) < (x4_47 + x6_63) then
                some (0:Int32)
              else
                if x5_55 < 0 then
                  some (0:Int32)
                else
                  if (x5_55 + x6_63) ≤ (8192:Int32) then
                    o_bd (o_lp n (m_Tx_sameString_b102 n x4_47 x5_55 x6_63 a0 a2) ((0:Int32))) fun q1 =>
                    if q1.1 = 1 then
                      some (0:Int32)
                    else
                    some (1:Int32)
                  else
                    some (0:Int32)
          else
            some (0:Int32)
def m_Tx_nextChild_j22 (x1 : Int32) (y0 : Int32) (a0 : STx) : Option (Int32) :=
  if y0 < 0 then
    some (-1:Int32)
  else
    if (Tx_total a0) ≤ y0 then
      some (-1:Int32)
    else
      o_gd (o_in x1 1000) <|
      o_gd (o_in y0 1000) <|
      if (((Tx_slots a0) x1.toNatClampNeg) + (1:Int32)) < ((Tx_sizes a0) y0.toNatClampNeg) then
        o_gd (o_in y0 1000) <|
        if ((Tx_kinds a0) y0.toNatClampNeg) = (5:Int32) then
          o_gd (o_in x1 1000) <|
          some ((Tx_afters a0) x1.toNatClampNeg)
        else
          o_gd (o_in x1 1000) <|
          some (((Tx_afters a0) x1.toNatClampNeg) + (1:Int32))
      else
        some (-1:Int32)
def m_Tx_nextChild (x1 : Int32) (a0 : STx) : Option (Int32) :=
  if x1 < 0 then
    m_Tx_nextChild_j22 x1 (-1:Int32) a0
  else
    if (Tx_total a0) ≤ x1 then
      m_Tx_nextChild_j22 x1 (-1:Int32) a0
    else
      o_gd (o_in x1 1000) <|
      m_Tx_nextChild_j22 x1 ((Tx_parents a0) x1.toNatClampNeg) a0
def m_Tx_member_b10 (n : Nat) (x1 : Int32) (x3 : Int32) (a0 : STx) (a2 : STx) (z : Int32 × Int32) : Option (Nat × Int32 × Int32) :=
  o_bd (m_Tx_size x1 a0) fun q2 =>
  if q2 ≤ z.2 then
    some (2, z.1, z.2)
  else
    o_bd (m_Tx_sameString n (z.1 - (1:Int32)) x3 a0 a2) fun q3 =>
    if q3 = 0 then
      o_bd (m_Tx_nextChild z.1 a0) fun q4 =>
      o_nm (z.2 + (1:Int32)) fun x5_44 =>
      some (0, q4, x5_44)
    else
      some (1, z.1, z.2)
def m_Tx_member (n : Nat) (x1 : Int32) (x3 : Int32) (a0 : STx) (a2 : STx) : Option (Int32) :=
  o_bd (m_Tx_firstChild x1 a0) fun q1 =>
  o_bd (o_lp n (m_Tx_member_b10 n x1 x3 a0 a2) (q1, (0:Int32))) fun q5 =>
  if q5.1 = 1 then
    some q5.2.1
  else
  some (-1:Int32)
def m_Tx_place (x1 : Int32) (a0 : STx) : Option (Int32) :=
  if x1 < 0 then
    some (-1:Int32)
  else
    if (Tx_total a0) ≤ x1 then
      some (-1:Int32)
    else
      o_gd (o_in x1 1000) <|
      some ((Tx_places a0) x1.toNatClampNeg)
def m_Rd_endName (n : Nat) (x1 : Int32) (x2 : Int32) (tc : STx) (Rd : SRd) : Option (Int32 × SRd) :=
  o_bd (m_Tx_member n x1 x2 tc tc) fun q1 =>
  if q1 = (-1:Int32) then
    o_bd (m_Rd_skipBlanks n Rd) fun q2 =>
    o_bd (m_Rd_peek q2) fun q3 =>
    if q3 = (58:Int32) then
      some ((1:Int32), (Rd_mk (Rd_words q2) (Rd_wordCount q2) ((Rd_position q2) + (1:Int32)) (Rd_limit q2) (Rd_wrongPlace q2)))
    else
      o_bd (m_Rd_refuse (Rd_position q2) q2) fun q4 =>
      o_gd (o_zb q4.1) <|
      some (q4.1, q4.2)
  else
    o_bd (m_Tx_place x2 tc) fun q5 =>
    o_bd (m_Rd_refuse q5 Rd) fun q6 =>
    o_gd (o_zb q6.1) <|
    some (q6.1, q6.2)
def m_Rd_readObject_j123 (n : Nat) (rec : Int32 → Int32 → Int32 → STx → SRd → Option (Int32 × STx × SRd)) (x1 : Int32) (x2 : Int32) (x3 : Int32) (x5 : Int32) (tc : STx) (Rd : SRd) : Option (Nat × Int32 × STx × SRd) :=
  o_bd (m_Tx_endParent x1 (x3 + (1:Int32)) tc) fun q9 =>
  if x5 = (125:Int32) then
    some (3, x3, q9, (Rd_mk (Rd_words Rd) (Rd_wordCount Rd) ((Rd_position Rd) + (1:Int32)) (Rd_limit Rd) (Rd_wrongPlace Rd)))
  else
    o_nm (x3 + (1:Int32)) fun x3_153 =>
    some (0, x3_153, q9, (Rd_mk (Rd_words Rd) (Rd_wordCount Rd) ((Rd_position Rd) + (1:Int32)) (Rd_limit Rd) (Rd_wrongPlace Rd)))
def m_Rd_readObject_b37 (n : Nat) (rec : Int32 → Int32 → Int32 → STx → SRd → Option (Int32 × STx × SRd)) (x1 : Int32) (x2 : Int32) (z : Int32 × STx × SRd) : Option (Nat × Int32 × STx × SRd) :=
  if (60:Int32) ≤ z.1 then
    some (4, z.1, z.2.1, z.2.2)
  else
    o_bd (m_Rd_beginName n x1 z.1 z.2.1 z.2.2) fun q3 =>
    if q3.1 = (-1:Int32) then
      some (1, z.1, q3.2.1, q3.2.2)
    else
      o_bd (m_Rd_readString n q3.1 q3.2.1 q3.2.2) fun q4 =>
      if q4.1 = 0 then
        some (1, z.1, q4.2.1, q4.2.2)
      else
        o_bd (m_Rd_endName n x1 q3.1 q4.2.1 q4.2.2) fun q5 =>
        if q5.1 = 0 then
          some (1, z.1, q4.2.1, q5.2)
        else
          o_bd (rec x1 z.1 (x2 + (1:Int32)) q4.2.1 q5.2) fun q6 =>
          if q6.1 = 0 then
            some (1, z.1, q6.2.1, q6.2.2)
          else
            o_bd (m_Rd_skipBlanks n q6.2.2) fun q7 =>
            o_bd (m_Rd_peek q7) fun q8 =>
            if q8 = (44:Int32) then
              m_Rd_readObject_j123 n rec x1 x2 z.1 q8 q6.2.1 q7
            else
              if q8 = (125:Int32) then
                m_Rd_readObject_j123 n rec x1 x2 z.1 q8 q6.2.1 q7
              else
                some (2, z.1, q6.2.1, q7)
def m_Rd_readObject (n : Nat) (rec : Int32 → Int32 → Int32 → STx → SRd → Option (Int32 × STx × SRd)) (x1 : Int32) (x2 : Int32) (tc : STx) (Rd : SRd) : Option (Int32 × STx × SRd) :=
  o_bd (m_Rd_skipBlanks n (Rd_mk (Rd_words Rd) (Rd_wordCount Rd) ((Rd_position Rd) + (1:Int32)) (Rd_limit Rd) (Rd_wrongPlace Rd))) fun q1 =>
  o_bd (m_Rd_peek q1) fun q2 =>
  if q2 = (125:Int32) then
    some ((1:Int32), tc, (Rd_mk (Rd_words q1) (Rd_wordCount q1) ((Rd_position q1) + (1:Int32)) (Rd_limit q1) (Rd_wrongPlace q1)))
  else
    o_bd (o_lp n (m_Rd_readObject_b37 n rec x1 x2) ((0:Int32), tc, q1)) fun q10 =>
    if q10.1 = 1 then
      some ((0:Int32), q10.2.2.1, q10.2.2.2)
    else
    if q10.1 = 2 then
      o_bd (m_Rd_refuse (Rd_position q10.2.2.2) q10.2.2.2) fun q11 =>
      o_gd (o_zb q11.1) <|
      some (q11.1, q10.2.2.1, q11.2)
    else
    if q10.1 = 3 then
      some ((1:Int32), q10.2.2.1, q10.2.2.2)
    else
    o_bd (m_Rd_skipBlanks n q10.2.2.2) fun q12 =>
    o_bd (m_Rd_refuse (Rd_position q12) q12) fun q13 =>
    o_gd (o_zb q13.1) <|
    some (q13.1, q10.2.2.1, q13.2)
def m_Rd_readArray_j90 (n : Nat) (rec : Int32 → Int32 → Int32 → STx → SRd → Option (Int32 × STx × SRd)) (x1 : Int32) (x2 : Int32) (x3 : Int32) (x4 : Int32) (tc : STx) (Rd : SRd) : Option (Nat × Int32 × STx × SRd) :=
  if x4 = (93:Int32) then
    some (3, x3, tc, (Rd_mk (Rd_words Rd) (Rd_wordCount Rd) ((Rd_position Rd) + (1:Int32)) (Rd_limit Rd) (Rd_wrongPlace Rd)))
  else
    o_nm (x3 + (1:Int32)) fun x3_120 =>
    some (0, x3_120, tc, (Rd_mk (Rd_words Rd) (Rd_wordCount Rd) ((Rd_position Rd) + (1:Int32)) (Rd_limit Rd) (Rd_wrongPlace Rd)))
def m_Rd_readArray_b37 (n : Nat) (rec : Int32 → Int32 → Int32 → STx → SRd → Option (Int32 × STx × SRd)) (x1 : Int32) (x2 : Int32) (z : Int32 × STx × SRd) : Option (Nat × Int32 × STx × SRd) :=
  if (60:Int32) ≤ z.1 then
    some (4, z.1, z.2.1, z.2.2)
  else
    o_bd (rec x1 z.1 (x2 + (1:Int32)) z.2.1 z.2.2) fun q3 =>
    if q3.1 = 0 then
      some (1, z.1, q3.2.1, q3.2.2)
    else
      o_bd (m_Rd_skipBlanks n q3.2.2) fun q4 =>
      o_bd (m_Rd_peek q4) fun q5 =>
      if q5 = (44:Int32) then
        m_Rd_readArray_j90 n rec x1 x2 z.1 q5 q3.2.1 q4
      else
        if q5 = (93:Int32) then
          m_Rd_readArray_j90 n rec x1 x2 z.1 q5 q3.2.1 q4
        else
          some (2, z.1, q3.2.1, q4)
def m_Rd_readArray (n : Nat) (rec : Int32 → Int32 → Int32 → STx → SRd → Option (Int32 × STx × SRd)) (x1 : Int32) (x2 : Int32) (tc : STx) (Rd : SRd) : Option (Int32 × STx × SRd) :=
  o_bd (m_Rd_skipBlanks n (Rd_mk (Rd_words Rd) (Rd_wordCount Rd) ((Rd_position Rd) + (1:Int32)) (Rd_limit Rd) (Rd_wrongPlace Rd))) fun q1 =>
  o_bd (m_Rd_peek q1) fun q2 =>
  if q2 = (93:Int32) then
    some ((1:Int32), tc, (Rd_mk (Rd_words q1) (Rd_wordCount q1) ((Rd_position q1) + (1:Int32)) (Rd_limit q1) (Rd_wrongPlace q1)))
  else
    o_bd (o_lp n (m_Rd_readArray_b37 n rec x1 x2) ((0:Int32), tc, q1)) fun q6 =>
    if q6.1 = 1 then
      some ((0:Int32), q6.2.2.1, q6.2.2.2)
    else
    if q6.1 = 2 then
      o_bd (m_Rd_refuse (Rd_position q6.2.2.2) q6.2.2.2) fun q7 =>
      o_gd (o_zb q7.1) <|
      some (q7.1, q6.2.2.1, q7.2)
    else
    if q6.1 = 3 then
      o_bd (m_Tx_endParent x1 (q6.2.1 + (1:Int32)) q6.2.2.1) fun q8 =>
      some ((1:Int32), q8, q6.2.2.2)
    else
    o_bd (m_Rd_skipBlanks n q6.2.2.2) fun q9 =>
    o_bd (m_Rd_refuse (Rd_position q9) q9) fun q10 =>
    o_gd (o_zb q10.1) <|
    some (q10.1, q6.2.2.1, q10.2)
def m_Rd_readValue_j31 (n : Nat) (rec : Int32 → Int32 → Int32 → STx → SRd → Option (Int32 × STx × SRd)) (tc : STx) (Rd : SRd) : Option (Int32 × STx × SRd) :=
  o_bd (m_Rd_refuse (Rd_position Rd) Rd) fun q4 =>
  o_gd (o_zb q4.1) <|
  some (q4.1, tc, q4.2)
def m_Rd_readValue_j40 (n : Nat) (rec : Int32 → Int32 → Int32 → STx → SRd → Option (Int32 × STx × SRd)) (x1 : Int32) (x2 : Int32) (x3 : Int32) (x4 : Int32) (tc : STx) (Rd : SRd) : Option (Int32 × STx × SRd) :=
  o_bd (m_Tx_begin x4 (Rd_position Rd) x1 x2 tc) fun q5 =>
  if q5.1 = (-1:Int32) then
    o_bd (m_Rd_refuse (Rd_position Rd) Rd) fun q13 =>
    o_gd (o_zb q13.1) <|
    some (q13.1, q5.2, q13.2)
  else
    if x4 = (0:Int32) then
      o_bd (m_Rd_readWord n 2 Rd) fun q6 =>
      o_gd (o_zb q6.1) <|
      some (q6.1, q5.2, q6.2)
    else
    if x4 = (1:Int32) then
      o_bd (m_Rd_readWord n 3 Rd) fun q7 =>
      o_gd (o_zb q7.1) <|
      some (q7.1, q5.2, q7.2)
    else
    if x4 = (2:Int32) then
      o_bd (m_Rd_readWord n 4 Rd) fun q8 =>
      o_gd (o_zb q8.1) <|
      some (q8.1, q5.2, q8.2)
    else
    if x4 = (3:Int32) then
      o_bd (m_Rd_readNumber n q5.1 q5.2 Rd) fun q9 =>
      o_gd (o_zb q9.1) <|
      some (q9.1, q9.2.1, q9.2.2)
    else
    if x4 = (4:Int32) then
      o_bd (m_Rd_readString n q5.1 q5.2 Rd) fun q10 =>
      o_gd (o_zb q10.1) <|
      some (q10.1, q10.2.1, q10.2.2)
    else
    if x4 = (5:Int32) then
      o_bd (m_Rd_readArray n rec q5.1 x3 q5.2 Rd) fun q11 =>
      o_gd (o_zb q11.1) <|
      some (q11.1, q11.2.1, q11.2.2)
    else
    o_bd (m_Rd_readObject n rec q5.1 x3 q5.2 Rd) fun q12 =>
    o_gd (o_zb q12.1) <|
    some (q12.1, q12.2.1, q12.2.2)
def m_Rd_readValue_F (n : Nat) (rec : Int32 → Int32 → Int32 → STx → SRd → Option (Int32 × STx × SRd)) (x1 : Int32) (x2 : Int32) (x3 : Int32) (tc : STx) (Rd : SRd) : Option (Int32 × STx × SRd) :=
  o_bd (m_Rd_skipBlanks n Rd) fun q1 =>
  o_bd (m_Rd_peek q1) fun q2 =>
  o_bd (m_Rd_kindThatBegins q2) fun q3 =>
  if q3 = (-1:Int32) then
    m_Rd_readValue_j31 n rec tc q1
  else
    if q3 < (5:Int32) then
      m_Rd_readValue_j40 n rec x1 x2 x3 q3 tc q1
    else
      if x3 ≤ (40:Int32) then
        m_Rd_readValue_j40 n rec x1 x2 x3 q3 tc q1
      else
        m_Rd_readValue_j31 n rec tc q1
def m_Rd_readValue (n : Nat) : Nat → Int32 → Int32 → Int32 → STx → SRd → Option (Int32 × STx × SRd)
  | 0, _, _, _, _, _ => none
  | d + 1, v0, v1, v2, v3, v4 => m_Rd_readValue_F n (m_Rd_readValue n d) v0 v1 v2 v3 v4
def m_Rd_read_j63 (n : Nat) (a1 : STx) (Rd : SRd) : Option (Int32 × STx × SRd) :=
  if (Rd_wrongPlace Rd) = (-1:Int32) then
    some ((Rd_wrongPlace Rd), a1, (Rd_mk (Rd_words Rd) (0:Int32) (Rd_position Rd) (Rd_limit Rd) (Rd_wrongPlace Rd)))
  else
    o_bd (m_Tx_clear a1) fun q3 =>
    some ((Rd_wrongPlace Rd), q3, (Rd_mk (Rd_words Rd) (0:Int32) (Rd_position Rd) (Rd_limit Rd) (Rd_wrongPlace Rd)))
def m_Rd_read (n : Nat) (x2 : Int32) (a1 : STx) (Rd : SRd) : Option (Int32 × STx × SRd) :=
  o_bd (m_Tx_clear a1) fun q1 =>
  o_bd (m_Rd_readValue n 43 (-1:Int32) (0:Int32) (1:Int32) q1 (Rd_mk (Rd_words Rd) (Rd_wordCount Rd) (0:Int32) x2 (-1:Int32))) fun q2 =>
  if q2.1 = 0 then
    m_Rd_read_j63 n q2.2.1 q2.2.2
  else
    o_bd (m_Rd_skipBlanks n q2.2.2) fun q4 =>
    if (Rd_limit q4) ≤ (Rd_position q4) then
      m_Rd_read_j63 n q2.2.1 q4
    else
      o_bd (m_Rd_refuse (Rd_position q4) q4) fun q5 =>
      m_Rd_read_j63 n q2.2.1 q5.2
def m_Tx_total (a0 : STx) : Option (Int32) :=
  some (Tx_total a0)
def m_SJ_end_j22 (n : Nat) (rt : Nat) (T0 : STx) (T1 : STx) (Rd : SRd) (Ck : SCk) (Sj : SSJ) : Option (Nat × Int32 × STx × STx × SRd × SCk × SSJ × Nat) :=
  some (1, (0:Int32), T0, T1, Rd, Ck, Sj, rt)
def m_SJ_end_j58 (n : Nat) (rt : Nat) (x2 : Int32) (T0 : STx) (T1 : STx) (Rd : SRd) (Ck : SCk) (Sj : SSJ) : Option (Nat × Int32 × STx × STx × SRd × SCk × SSJ × Nat) :=
  o_bd (m_Rd_read n x2 T1 Rd) fun q2 =>
  if q2.1 = (-1:Int32) then
    o_bd (m_Tx_total q2.2.1) fun q3 =>
    some (0, q3, T0, q2.2.1, q2.2.2, Ck, (SJ_mk q2.1), 12)
  else
    some (2, (0:Int32), T0, q2.2.1, q2.2.2, Ck, (SJ_mk q2.1), 12)
def m_SJ_end_j58v4 (n : Nat) (rt : Nat) (x2 : Int32) (T0 : STx) (T1 : STx) (Rd : SRd) (Ck : SCk) (Sj : SSJ) : Option (Nat × Int32 × STx × STx × SRd × SCk × SSJ × Nat) :=
  o_bd (m_Rd_read n x2 T0 Rd) fun q5 =>
  if q5.1 = (-1:Int32) then
    o_bd (m_Tx_total q5.2.1) fun q6 =>
    some (0, q6, q5.2.1, T1, q5.2.2, Ck, (SJ_mk q5.1), 1)
  else
    some (2, (0:Int32), q5.2.1, T1, q5.2.2, Ck, (SJ_mk q5.1), 1)
def m_SJ_end_j43 (n : Nat) (rt : Nat) (x1 : Int32) (x2 : Int32) (T0 : STx) (T1 : STx) (Rd : SRd) (Ck : SCk) (Sj : SSJ) : Option (Nat × Int32 × STx × STx × SRd × SCk × SSJ × Nat) :=
  if x1 = 0 then
    m_SJ_end_j58 n rt x2 T0 T1 Rd Ck Sj
  else
    m_SJ_end_j58v4 n rt x2 T0 T1 Rd Ck Sj
def m_SJ_end (n : Nat) (rt : Nat) (x1 : Int32) (x2 : Int32) (T0 : STx) (T1 : STx) (Rd : SRd) (Ck : SCk) (Sj : SSJ) : Option (Nat × Int32 × STx × STx × SRd × SCk × SSJ × Nat) :=
  if x2 < 0 then
    m_SJ_end_j22 n rt T0 T1 Rd Ck Sj
  else
    if (8192:Int32) < x2 then
      m_SJ_end_j22 n rt T0 T1 Rd Ck Sj
    else
      o_bd (m_Rd_octets Rd) fun q1 =>
      if x2 ≤ q1 then
        if x1 = 0 then
          m_SJ_end_j43 n rt x1 x2 T0 T1 Rd Ck Sj
        else
          o_bd (m_Ck_forget Ck) fun q7 =>
          m_SJ_end_j43 n rt x1 x2 T0 T1 Rd q7 Sj
      else
        m_SJ_end_j22 n rt T0 T1 Rd Ck Sj
def m_SJ_wrong (Sj : SSJ) : Option (Int32) :=
  some (SJ_wrongAt Sj)
def m_Mk_clear_b2 (n : Nat) (z : Int32 × SMk) : Option (Nat × Int32 × SMk) :=
  if (1000:Int32) ≤ z.1 then
    some (1, z.1, z.2)
  else
    o_gd (o_in z.1 1000) <|
    o_gd (o_in z.1 1000) <|
    o_gd (o_in z.1 1000) <|
    o_nm (z.1 + (1:Int32)) fun x1_30 =>
    some (0, x1_30, (Mk_mk (upd (Mk_keywords z.2) z.1.toNatClampNeg (0:Int32)) (upd (Mk_schemas z.2) z.1.toNatClampNeg (vp_nar .boolean (0:Int32))) (upd (Mk_targets z.2) z.1.toNatClampNeg (-1:Int32))))
def m_Mk_clear (n : Nat) (Mk : SMk) : Option (SMk) :=
  o_bd (o_lp n (m_Mk_clear_b2 n) ((0:Int32), Mk)) fun q1 =>
  some q1.2.2
def m_Tx_kind (x1 : Int32) (a0 : STx) : Option (Int32) :=
  if x1 < 0 then
    some (-1:Int32)
  else
    if (Tx_total a0) ≤ x1 then
      some (-1:Int32)
    else
      o_gd (o_in x1 1000) <|
      some ((Tx_kinds a0) x1.toNatClampNeg)
def m_Mk_markSchema_j30 (x1 : Int32) (y0 : Int32) (T0 : STx) (Mk : SMk) : Option (Int32 × SMk) :=
  if y0 = 0 then
    o_gd (o_zb y0) <|
    some (y0, Mk)
  else
    if x1 < 0 then
      o_gd (o_zb y0) <|
      some (y0, Mk)
    else
      if (1000:Int32) ≤ x1 then
        o_gd (o_zb y0) <|
        some (y0, Mk)
      else
        o_gd (o_in x1 1000) <|
        o_gd (o_zb y0) <|
        some (y0, (Mk_mk (Mk_keywords Mk) (upd (Mk_schemas Mk) x1.toNatClampNeg (vp_nar .boolean (1:Int32))) (Mk_targets Mk)))
def m_Mk_markSchema (x1 : Int32) (T0 : STx) (Mk : SMk) : Option (Int32 × SMk) :=
  o_bd (m_Tx_kind x1 T0) fun q1 =>
  if q1 = (6:Int32) then
    m_Mk_markSchema_j30 x1 (1:Int32) T0 Mk
  else
    if q1 = (2:Int32) then
      m_Mk_markSchema_j30 x1 (1:Int32) T0 Mk
    else
      if q1 = (1:Int32) then
        m_Mk_markSchema_j30 x1 (1:Int32) T0 Mk
      else
        m_Mk_markSchema_j30 x1 (0:Int32) T0 Mk
def m_Ck_report_j31 (x1 : Int32) (x2 : Int32) (Ck : SCk) : Option (SCk) :=
  some (Ck_mk (Ck_aimedAt Ck) (Ck_reached Ck) (Ck_reachedFrom Ck) (Ck_reachedCount Ck) x1 x2)
def m_Ck_report (x1 : Int32) (x2 : Int32) (Ck : SCk) : Option (SCk) :=
  if (Ck_found Ck) = 0 then
    m_Ck_report_j31 x1 x2 Ck
  else
    if x2 < (Ck_foundAt Ck) then
      m_Ck_report_j31 x1 x2 Ck
    else
      if x2 = (Ck_foundAt Ck) then
        if (Ck_found Ck) ≤ x1 then
          some Ck
        else
          m_Ck_report_j31 x1 x2 Ck
      else
        some Ck
def m_Ck_require (x1 : Int32) (x2 : Int32) (Ck : SCk) : Option (SCk) :=
  if x1 = 0 then
    o_bd (m_Ck_report (1:Int32) x2 Ck) fun q1 =>
    some q1
  else
    some Ck
def m_Ck_takeSchema (x1 : Int32) (T0 : STx) (Mk : SMk) (Ck : SCk) : Option (SMk × SCk) :=
  o_bd (m_Mk_markSchema x1 T0 Mk) fun q1 =>
  o_bd (m_Ck_require q1.1 x1 Ck) fun q2 =>
  some (q1.2, q2)
def m_Mk_isSchema (x1 : Int32) (Mk : SMk) : Option (Int32) :=
  if x1 < 0 then
    some (0:Int32)
  else
    if (1000:Int32) ≤ x1 then
      some (0:Int32)
    else
      o_gd (o_in x1 1000) <|
      if ((Mk_schemas Mk) x1.toNatClampNeg) = 0 then
        some (0:Int32)
      else
        some (1:Int32)
def m_Tx_spells_b50 (n : Nat) (x1 : Int32) (x2 : Nat) (a0 : STx) (z : Int32) : Option (Nat × Int32) :=
  o_bd (m_JS_length x2) fun q2 =>
  if q2 ≤ z then
    some (2, z)
  else
    o_gd (o_in x1 1000) <|
    o_gd (o_in (((Tx_starts a0) x1.toNatClampNeg) + z) 8192) <|
    o_bd (m_JS_charAt x2 z) fun q3 =>
    if ((Tx_cells a0) (((Tx_starts a0) x1.toNatClampNeg) + z).toNatClampNeg) = q3 then
      o_nm (z + (1:Int32)) fun x3_81 =>
      some (0, x3_81)
    else
      some (1, z)
def m_Tx_spells (n : Nat) (x1 : Int32) (x2 : Nat) (a0 : STx) : Option (Int32) :=
  if x1 < 0 then
    some (0:Int32)
  else
    if (Tx_total a0) ≤ x1 then
      some (0:Int32)
    else
      o_gd (o_in x1 1000) <|
      o_bd (m_JS_length x2) fun q1 =>
      if ((Tx_sizes a0) x1.toNatClampNeg) = q1 then
        o_gd (o_in x1 1000) <|
        o_gd (o_in x1 1000) <|
        if (((Tx_starts a0) x1.toNatClampNeg) + ((Tx_sizes a0) x1.toNatClampNeg)) ≤ (8192:Int32) then
          o_bd (o_lp n (m_Tx_spells_b50 n x1 x2 a0) ((0:Int32))) fun q4 =>
          if q4.1 = 1 then
            some (0:Int32)
          else
          some (1:Int32)
        else
          some (0:Int32)
      else
        some (0:Int32)
def m_Kw_placeOf_b2 (n : Nat) (x1 : Int32) (a0 : STx) (z : Int32) : Option (Nat × Int32) :=
  if (45:Int32) ≤ z then
    some (2, z)
  else
    o_gd (o_in z 45) <|
    o_bd (m_Tx_spells n x1 (kw_str (z.toNatClampNeg)) a0) fun q1 =>
    if q1 = 0 then
      o_nm (z + (1:Int32)) fun x2_28 =>
      some (0, x2_28)
    else
      some (1, z)
def m_Kw_placeOf (n : Nat) (x1 : Int32) (a0 : STx) : Option (Int32) :=
  o_bd (o_lp n (m_Kw_placeOf_b2 n x1 a0) ((1:Int32))) fun q2 =>
  if q2.1 = 1 then
    some q2.2
  else
  some (0:Int32)
def m_Kw_numbered (x0 : Int32) : Option (Nat) :=
  if x0 < 0 then
    some 0
  else
    if (45:Int32) ≤ x0 then
      some 0
    else
      o_gd (o_in x0 45) <|
      some (x0.toNatClampNeg)
def m_Mk_markKeyword_j29 (n : Nat) (x2 : Int32) (T0 : STx) (Mk : SMk) : Option (Nat × SMk) :=
  o_bd (m_Kw_numbered x2) fun q2 =>
  o_gd (o_kb q2) <|
  some (q2, Mk)
def m_Mk_markKeyword (n : Nat) (x1 : Int32) (T0 : STx) (Mk : SMk) : Option (Nat × SMk) :=
  o_bd (m_Kw_placeOf n (x1 - (1:Int32)) T0) fun q1 =>
  if x1 < 0 then
    m_Mk_markKeyword_j29 n q1 T0 Mk
  else
    if (1000:Int32) ≤ x1 then
      m_Mk_markKeyword_j29 n q1 T0 Mk
    else
      o_gd (o_in x1 1000) <|
      m_Mk_markKeyword_j29 n q1 T0 (Mk_mk (upd (Mk_keywords Mk) x1.toNatClampNeg q1) (Mk_schemas Mk) (Mk_targets Mk))
def m_Ck_takeSchemas_b20 (n : Nat) (x1 : Int32) (T0 : STx) (z : Int32 × Int32 × SMk × SCk) : Option (Nat × Int32 × Int32 × SMk × SCk) :=
  o_bd (m_Tx_size x1 T0) fun q1 =>
  if q1 ≤ z.2.1 then
    some (1, z.1, z.2.1, z.2.2.1, z.2.2.2)
  else
    if z.1 = (-1:Int32) then
      some (1, z.1, z.2.1, z.2.2.1, z.2.2.2)
    else
      o_bd (m_Ck_takeSchema z.1 T0 z.2.2.1 z.2.2.2) fun q2 =>
      o_bd (m_Tx_nextChild z.1 T0) fun q3 =>
      o_nm (z.2.1 + (1:Int32)) fun x4_52 =>
      some (0, q3, x4_52, q2.1, q2.2)
def m_Ck_takeSchemas (n : Nat) (x1 : Int32) (x2 : Int32) (T0 : STx) (Mk : SMk) (Ck : SCk) : Option (SMk × SCk) :=
  if x2 = 0 then
    o_bd (o_lp n (m_Ck_takeSchemas_b20 n x1 T0) ((-1:Int32), (0:Int32), Mk, Ck)) fun q4 =>
    some (q4.2.2.2.1, q4.2.2.2.2)
  else
    o_bd (m_Tx_firstChild x1 T0) fun q5 =>
    o_bd (o_lp n (m_Ck_takeSchemas_b20 n x1 T0) (q5, (0:Int32), Mk, Ck)) fun q6 =>
    some (q6.2.2.2.1, q6.2.2.2.2)
def m_Tx_cell (x1 : Int32) (x2 : Int32) (a0 : STx) : Option (Int32) :=
  if x1 < 0 then
    some (0:Int32)
  else
    if (Tx_total a0) ≤ x1 then
      some (0:Int32)
    else
      if x2 < 0 then
        some (0:Int32)
      else
        o_gd (o_in x1 1000) <|
        if x2 < ((Tx_sizes a0) x1.toNatClampNeg) then
          o_gd (o_in x1 1000) <|
          o_nm (((Tx_starts a0) x1.toNatClampNeg) + x2) fun x3_36 =>
          if x3_36 < 0 then
            some (0:Int32)
          else
            if (8192:Int32) ≤ x3_36 then
              some (0:Int32)
            else
              o_gd (o_in x3_36 8192) <|
              some ((Tx_cells a0) x3_36.toNatClampNeg)
        else
          some (0:Int32)
def m_JL_canEncode (x0 : Int32) : Option (Int32) :=
  if x0 < 0 then
    some (0:Int32)
  else
    if (255:Int32) < x0 then
      some (0:Int32)
    else
      some (1:Int32)
def m_JL_indexOfChar_b7 (n : Nat) (x0 : Nat) (x3 : Int32) (x4 : Int32) (z : Int32) : Option (Nat × Int32) :=
  if x3 ≤ z then
    some (2, z)
  else
    o_gd (o_in z (o_slen.getD x0 0)) <|
    if (o_sa x0 z.toNatClampNeg) = x4 then
      some (1, z)
    else
      o_nm (z + (1:Int32)) fun x5_25 =>
      some (0, x5_25)
def m_JL_indexOfChar (n : Nat) (x0 : Nat) (x1 : Int32) (x2 : Int32) (x3 : Int32) : Option (Int32) :=
  o_nm (x1.toInt8.toInt32) fun x4_2 =>
  o_bd (o_lp n (m_JL_indexOfChar_b7 n x0 x3 x4_2) (x2)) fun q1 =>
  if q1.1 = 1 then
    some q1.2
  else
  some (-1:Int32)
def m_JL_indexOf (n : Nat) (x0 : Nat) (x1 : Int32) (x2 : Int32) (x3 : Int32) : Option (Int32) :=
  o_bd (m_JL_canEncode x1) fun q1 =>
  if q1 = 0 then
    some (-1:Int32)
  else
    o_nm (if x2 < (0:Int32) then (0:Int32) else x2) fun x2_14 =>
    o_nm (if (o_sl x0) < x3 then (o_sl x0) else x3) fun x3_21 =>
    if x2_14 < x3_21 then
      o_bd (m_JL_indexOfChar n x0 x1 x2_14 x3_21) fun q2 =>
      some q2
    else
      some (-1:Int32)
def m_JS_indexOf_1 (n : Nat) (x0 : Nat) (x1 : Int32) (x2 : Int32) : Option (Int32) :=
  o_bd (m_JS_isLatin1 x0) fun q1 =>
  if q1 = 0 then
    o_bd (m_JS_length x0) fun q2 =>
    none
  else
    o_bd (m_JS_length x0) fun q3 =>
    o_bd (m_JL_indexOf n x0 x1 x2 q3) fun q4 =>
    some q4
def m_JS_indexOf (n : Nat) (x0 : Nat) (x1 : Int32) : Option (Int32) :=
  o_bd (m_JS_indexOf_1 n x0 x1 (0:Int32)) fun q1 =>
  some q1
def m_Pt_hexToken_j131 (n : Nat) (x1 : Int32) (x3 : Int32) (x5 : Int32) (y0 : Int32) (y1 : Int32) (Pt : SPt) : Option (Nat × Int32 × Int32 × SPt) :=
  o_nm (y0 + y1) fun x2_132 =>
  if x5 < 0 then
    some (3, x2_132, x3, Pt)
  else
    if x2_132 ≤ (1114111:Int32) then
      o_nm (x3 + (1:Int32)) fun x3_146 =>
      some (0, x2_132, x3_146, Pt)
    else
      some (3, x2_132, x3, Pt)
def m_Pt_hexToken_j108 (n : Nat) (x1 : Int32) (x2 : Int32) (x3 : Int32) (y0 : Int32) (Pt : SPt) : Option (Nat × Int32 × Int32 × SPt) :=
  if y0 ≤ (15:Int32) then
    m_Pt_hexToken_j131 n x1 x3 y0 (x2 * (16:Int32)) y0 Pt
  else
    m_Pt_hexToken_j131 n x1 x3 y0 (x2 * (16:Int32)) (y0 - (6:Int32)) Pt
def m_Pt_hexToken_j83 (n : Nat) (x1 : Int32) (x2 : Int32) (x3 : Int32) (x4 : Int32) (Pt : SPt) : Option (Nat × Int32 × Int32 × SPt) :=
  if x4 < 0 then
    m_Pt_hexToken_j108 n x1 x2 x3 (-1:Int32) Pt
  else
    if (128:Int32) ≤ x4 then
      m_Pt_hexToken_j108 n x1 x2 x3 (-1:Int32) Pt
    else
      o_bd (m_JS_indexOf n 7 ((x4.toUInt32 % 65536).toInt32)) fun q1 =>
      m_Pt_hexToken_j108 n x1 x2 x3 q1 Pt
def m_Pt_hexToken_j51 (n : Nat) (x1 : Int32) (x2 : Int32) (x3 : Int32) (y0 : Int32) (Pt : SPt) : Option (Nat × Int32 × Int32 × SPt) :=
  if x1 = 0 then
    if x3 ≤ 0 then
      m_Pt_hexToken_j83 n x1 x2 x3 y0 (Pt_mk (Pt_tokens Pt) (Pt_characterCount Pt) (Pt_tokenCount Pt) ((Pt_position Pt) + (1:Int32)) (Pt_total Pt) (Pt_least Pt) (Pt_most Pt) (Pt_depth Pt) (Pt_blockStarts Pt) (Pt_branchStarts Pt) (Pt_jumps Pt) (Pt_sizesBefore Pt))
    else
      if y0 = (125:Int32) then
        some (2, x2, x3, (Pt_mk (Pt_tokens Pt) (Pt_characterCount Pt) (Pt_tokenCount Pt) ((Pt_position Pt) + (1:Int32)) (Pt_total Pt) (Pt_least Pt) (Pt_most Pt) (Pt_depth Pt) (Pt_blockStarts Pt) (Pt_branchStarts Pt) (Pt_jumps Pt) (Pt_sizesBefore Pt)))
      else
        m_Pt_hexToken_j83 n x1 x2 x3 y0 (Pt_mk (Pt_tokens Pt) (Pt_characterCount Pt) (Pt_tokenCount Pt) ((Pt_position Pt) + (1:Int32)) (Pt_total Pt) (Pt_least Pt) (Pt_most Pt) (Pt_depth Pt) (Pt_blockStarts Pt) (Pt_branchStarts Pt) (Pt_jumps Pt) (Pt_sizesBefore Pt))
  else
    m_Pt_hexToken_j83 n x1 x2 x3 y0 (Pt_mk (Pt_tokens Pt) (Pt_characterCount Pt) (Pt_tokenCount Pt) ((Pt_position Pt) + (1:Int32)) (Pt_total Pt) (Pt_least Pt) (Pt_most Pt) (Pt_depth Pt) (Pt_blockStarts Pt) (Pt_branchStarts Pt) (Pt_jumps Pt) (Pt_sizesBefore Pt))
def m_Pt_hexToken_j27 (n : Nat) (x1 : Int32) (x2 : Int32) (x3 : Int32) (Pt : SPt) : Option (Nat × Int32 × Int32 × SPt) :=
  if (Pt_characterCount Pt) ≤ (Pt_position Pt) then
    m_Pt_hexToken_j51 n x1 x2 x3 (-1:Int32) Pt
  else
    o_gd (o_in (Pt_position Pt) 4000) <|
    m_Pt_hexToken_j51 n x1 x2 x3 ((Pt_tokens Pt) (Pt_position Pt).toNatClampNeg) Pt
def m_Pt_hexToken_b4 (n : Nat) (x1 : Int32) (z : Int32 × Int32 × SPt) : Option (Nat × Int32 × Int32 × SPt) :=
  if (4000:Int32) ≤ z.2.1 then
    some (4, z.1, z.2.1, z.2.2)
  else
    if x1 ≤ 0 then
      m_Pt_hexToken_j27 n x1 z.1 z.2.1 z.2.2
    else
      if z.2.1 = x1 then
        some (1, z.1, z.2.1, z.2.2)
      else
        m_Pt_hexToken_j27 n x1 z.1 z.2.1 z.2.2
def m_Pt_hexToken (n : Nat) (x1 : Int32) (Pt : SPt) : Option (Int32 × SPt) :=
  o_bd (o_lp n (m_Pt_hexToken_b4 n x1) ((0:Int32), (0:Int32), Pt)) fun q2 =>
  if q2.1 = 1 then
    some (((2097152:Int32) ||| q2.2.1), q2.2.2.2)
  else
  if q2.1 = 2 then
    some (((2097152:Int32) ||| q2.2.1), q2.2.2.2)
  else
  if q2.1 = 3 then
    some ((-1:Int32), q2.2.2.2)
  else
  some ((-1:Int32), q2.2.2.2)
def m_Pt_isIn (n : Nat) (x0 : Nat) (x1 : Int32) : Option (Int32) :=
  if x1 < 0 then
    some (0:Int32)
  else
    if (128:Int32) ≤ x1 then
      some (0:Int32)
    else
      o_bd (m_JS_indexOf n x0 ((x1.toUInt32 % 65536).toInt32)) fun q1 =>
      if q1 < 0 then
        some (0:Int32)
      else
        some (1:Int32)
def m_Pt_escape_j219 (n : Nat) (y1 : Int32) (Pt : SPt) : Option (Int32 × SPt) :=
  o_bd (m_Pt_hexToken n y1 Pt) fun q2 =>
  some (q2.1, q2.2)
def m_Pt_escape_j203 (n : Nat) (x3 : Int32) (y1 : Int32) (y2 : Int32) (Pt : SPt) : Option (Int32 × SPt) :=
  if x3 = (123:Int32) then
    m_Pt_escape_j219 n (0:Int32) (Pt_mk (Pt_tokens Pt) (Pt_characterCount Pt) (Pt_tokenCount Pt) (y1 + y2) (Pt_total Pt) (Pt_least Pt) (Pt_most Pt) (Pt_depth Pt) (Pt_blockStarts Pt) (Pt_branchStarts Pt) (Pt_jumps Pt) (Pt_sizesBefore Pt))
  else
    m_Pt_escape_j219 n (4:Int32) (Pt_mk (Pt_tokens Pt) (Pt_characterCount Pt) (Pt_tokenCount Pt) (y1 + y2) (Pt_total Pt) (Pt_least Pt) (Pt_most Pt) (Pt_depth Pt) (Pt_blockStarts Pt) (Pt_branchStarts Pt) (Pt_jumps Pt) (Pt_sizesBefore Pt))
def m_Pt_escape_j59 (n : Nat) (x1 : Int32) (x2 : Int32) (y0 : Int32) (Pt : SPt) : Option (Int32 × SPt) :=
  if x2 = (45:Int32) then
    if x1 = 0 then
      some ((-1:Int32), Pt)
    else
      some (((2097152:Int32) ||| x2), Pt)
  else
  if x2 = (48:Int32) then
    o_bd (m_SJ_isDigit y0) fun q1 =>
    if q1 = 0 then
      some ((2097152:Int32), Pt)
    else
      some ((-1:Int32), Pt)
  else
  if x2 = (98:Int32) then
    if x1 = 0 then
      some ((-1:Int32), Pt)
    else
      some ((2097160:Int32), Pt)
  else
  if x2 = (102:Int32) then
    some ((2097164:Int32), Pt)
  else
  if x2 = (110:Int32) then
    some ((2097162:Int32), Pt)
  else
  if x2 = (114:Int32) then
    some ((2097165:Int32), Pt)
  else
  if x2 = (116:Int32) then
    some ((2097161:Int32), Pt)
  else
  if x2 = (117:Int32) then
    if y0 = (123:Int32) then
      m_Pt_escape_j203 n y0 (Pt_position Pt) (1:Int32) Pt
    else
      m_Pt_escape_j203 n y0 (Pt_position Pt) (0:Int32) Pt
  else
  if x2 = (118:Int32) then
    some ((2097163:Int32), Pt)
  else
  if x2 = (120:Int32) then
    o_bd (m_Pt_hexToken n (2:Int32) Pt) fun q3 =>
    some (q3.1, q3.2)
  else
  o_bd (m_Pt_isIn n 8 x2) fun q4 =>
  if q4 = 0 then
    o_bd (m_Pt_isIn n 9 x2) fun q5 =>
    if q5 = 0 then
      some ((-1:Int32), Pt)
    else
      some (((2097152:Int32) ||| x2), Pt)
  else
    o_bd (m_JS_indexOf n 8 ((x2.toUInt32 % 65536).toInt32)) fun q6 =>
    some (((4194304:Int32) ||| ((1:Int32) <<< (q6 &&& 31))), Pt)
def m_Pt_escape_j24 (n : Nat) (x1 : Int32) (y0 : Int32) (Pt : SPt) : Option (Int32 × SPt) :=
  if (Pt_characterCount Pt) ≤ ((Pt_position Pt) + (1:Int32)) then
    m_Pt_escape_j59 n x1 y0 (-1:Int32) (Pt_mk (Pt_tokens Pt) (Pt_characterCount Pt) (Pt_tokenCount Pt) ((Pt_position Pt) + (1:Int32)) (Pt_total Pt) (Pt_least Pt) (Pt_most Pt) (Pt_depth Pt) (Pt_blockStarts Pt) (Pt_branchStarts Pt) (Pt_jumps Pt) (Pt_sizesBefore Pt))
  else
    o_gd (o_in ((Pt_position Pt) + (1:Int32)) 4000) <|
    m_Pt_escape_j59 n x1 y0 ((Pt_tokens Pt) ((Pt_position Pt) + (1:Int32)).toNatClampNeg) (Pt_mk (Pt_tokens Pt) (Pt_characterCount Pt) (Pt_tokenCount Pt) ((Pt_position Pt) + (1:Int32)) (Pt_total Pt) (Pt_least Pt) (Pt_most Pt) (Pt_depth Pt) (Pt_blockStarts Pt) (Pt_branchStarts Pt) (Pt_jumps Pt) (Pt_sizesBefore Pt))
def m_Pt_escape (n : Nat) (x1 : Int32) (Pt : SPt) : Option (Int32 × SPt) :=
  if (Pt_characterCount Pt) ≤ (Pt_position Pt) then
    m_Pt_escape_j24 n x1 (-1:Int32) Pt
  else
    o_gd (o_in (Pt_position Pt) 4000) <|
    m_Pt_escape_j24 n x1 ((Pt_tokens Pt) (Pt_position Pt).toNatClampNeg) Pt
def m_Pt_tokenise_b19 (n : Nat) (x2 : Int32) (a1 : STx) (z : Int32 × SPt) : Option (Nat × Int32 × SPt) :=
  if (Pt_characterCount z.2) ≤ z.1 then
    some (1, z.1, z.2)
  else
    o_bd (m_Tx_cell x2 z.1 a1) fun q2 =>
    o_gd (o_in z.1 4000) <|
    o_nm (z.1 + (1:Int32)) fun x3_39 =>
    some (0, x3_39, (Pt_mk (upd (Pt_tokens z.2) z.1.toNatClampNeg q2) (Pt_characterCount z.2) (Pt_tokenCount z.2) (Pt_position z.2) (Pt_total z.2) (Pt_least z.2) (Pt_most z.2) (Pt_depth z.2) (Pt_blockStarts z.2) (Pt_branchStarts z.2) (Pt_jumps z.2) (Pt_sizesBefore z.2)))
def m_Pt_tokenise_j190 (n : Nat) (x3 : Int32) (x4 : Int32) (x6 : Int32) (a1 : STx) (Pt : SPt) : Option (Nat × Int32 × Int32 × SPt) :=
  o_gd (o_in (Pt_tokenCount Pt) 4000) <|
  o_nm (x4 + (1:Int32)) fun x4_211 =>
  some (0, x3, x4_211, (Pt_mk (upd (Pt_tokens Pt) (Pt_tokenCount Pt).toNatClampNeg x6) (Pt_characterCount Pt) ((Pt_tokenCount Pt) + (1:Int32)) (Pt_position Pt) (Pt_total Pt) (Pt_least Pt) (Pt_most Pt) (Pt_depth Pt) (Pt_blockStarts Pt) (Pt_branchStarts Pt) (Pt_jumps Pt) (Pt_sizesBefore Pt)))
def m_Pt_tokenise_j184 (n : Nat) (x4 : Int32) (x5 : Int32) (y0 : Int32) (a1 : STx) (Pt : SPt) : Option (Nat × Int32 × Int32 × SPt) :=
  o_nm (-x5) fun x6_188 =>
  m_Pt_tokenise_j190 n y0 x4 x6_188 a1 Pt
def m_Pt_tokenise_j144 (n : Nat) (x4 : Int32) (x5 : Int32) (y0 : Int32) (a1 : STx) (Pt : SPt) : Option (Nat × Int32 × Int32 × SPt) :=
  if y0 = 0 then
    o_nm (-x5) fun x6_157 =>
    m_Pt_tokenise_j190 n y0 x4 x6_157 a1 Pt
  else
    m_Pt_tokenise_j190 n y0 x4 x5 a1 Pt
def m_Pt_tokenise_b60 (n : Nat) (a1 : STx) (z : Int32 × Int32 × SPt) : Option (Nat × Int32 × Int32 × SPt) :=
  if (4000:Int32) ≤ z.2.1 then
    some (2, z.1, z.2.1, z.2.2)
  else
    if (Pt_characterCount z.2.2) ≤ (Pt_position z.2.2) then
      some (2, z.1, z.2.1, z.2.2)
    else
      o_gd (o_in (Pt_position z.2.2) 4000) <|
      o_nm ((Pt_tokens z.2.2) (Pt_position z.2.2).toNatClampNeg) fun x5_90 =>
      if x5_90 = (92:Int32) then
        o_bd (m_Pt_escape n z.1 (Pt_mk (Pt_tokens z.2.2) (Pt_characterCount z.2.2) (Pt_tokenCount z.2.2) ((Pt_position z.2.2) + (1:Int32)) (Pt_total z.2.2) (Pt_least z.2.2) (Pt_most z.2.2) (Pt_depth z.2.2) (Pt_blockStarts z.2.2) (Pt_branchStarts z.2.2) (Pt_jumps z.2.2) (Pt_sizesBefore z.2.2))) fun q5 =>
        if q5.1 = (-1:Int32) then
          some (1, z.1, z.2.1, q5.2)
        else
          m_Pt_tokenise_j190 n z.1 z.2.1 q5.1 a1 q5.2
      else
        if z.1 = 0 then
          o_bd (m_Pt_isIn n 10 x5_90) fun q4 =>
          if q4 = 0 then
            m_Pt_tokenise_j190 n z.1 z.2.1 x5_90 a1 (Pt_mk (Pt_tokens z.2.2) (Pt_characterCount z.2.2) (Pt_tokenCount z.2.2) ((Pt_position z.2.2) + (1:Int32)) (Pt_total z.2.2) (Pt_least z.2.2) (Pt_most z.2.2) (Pt_depth z.2.2) (Pt_blockStarts z.2.2) (Pt_branchStarts z.2.2) (Pt_jumps z.2.2) (Pt_sizesBefore z.2.2))
          else
            if x5_90 = (91:Int32) then
              m_Pt_tokenise_j184 n z.2.1 x5_90 (1:Int32) a1 (Pt_mk (Pt_tokens z.2.2) (Pt_characterCount z.2.2) (Pt_tokenCount z.2.2) ((Pt_position z.2.2) + (1:Int32)) (Pt_total z.2.2) (Pt_least z.2.2) (Pt_most z.2.2) (Pt_depth z.2.2) (Pt_blockStarts z.2.2) (Pt_branchStarts z.2.2) (Pt_jumps z.2.2) (Pt_sizesBefore z.2.2))
            else
              m_Pt_tokenise_j184 n z.2.1 x5_90 (0:Int32) a1 (Pt_mk (Pt_tokens z.2.2) (Pt_characterCount z.2.2) (Pt_tokenCount z.2.2) ((Pt_position z.2.2) + (1:Int32)) (Pt_total z.2.2) (Pt_least z.2.2) (Pt_most z.2.2) (Pt_depth z.2.2) (Pt_blockStarts z.2.2) (Pt_branchStarts z.2.2) (Pt_jumps z.2.2) (Pt_sizesBefore z.2.2))
        else
          if x5_90 = (93:Int32) then
            m_Pt_tokenise_j144 n z.2.1 x5_90 (0:Int32) a1 (Pt_mk (Pt_tokens z.2.2) (Pt_characterCount z.2.2) (Pt_tokenCount z.2.2) ((Pt_position z.2.2) + (1:Int32)) (Pt_total z.2.2) (Pt_least z.2.2) (Pt_most z.2.2) (Pt_depth z.2.2) (Pt_blockStarts z.2.2) (Pt_branchStarts z.2.2) (Pt_jumps z.2.2) (Pt_sizesBefore z.2.2))
          else
            m_Pt_tokenise_j144 n z.2.1 x5_90 (1:Int32) a1 (Pt_mk (Pt_tokens z.2.2) (Pt_characterCount z.2.2) (Pt_tokenCount z.2.2) ((Pt_position z.2.2) + (1:Int32)) (Pt_total z.2.2) (Pt_least z.2.2) (Pt_most z.2.2) (Pt_depth z.2.2) (Pt_blockStarts z.2.2) (Pt_branchStarts z.2.2) (Pt_jumps z.2.2) (Pt_sizesBefore z.2.2))
def m_Pt_tokenise_j217 (n : Nat) (x3 : Int32) (a1 : STx) (Pt : SPt) : Option (Int32 × SPt) :=
  if x3 = 0 then
    some ((1:Int32), Pt)
  else
    some ((0:Int32), Pt)
def m_Pt_tokenise (n : Nat) (x2 : Int32) (a1 : STx) (Pt : SPt) : Option (Int32 × SPt) :=
  o_bd (m_Tx_size x2 a1) fun q1 =>
  o_bd (o_lp n (m_Pt_tokenise_b19 n x2 a1) ((0:Int32), (Pt_mk (Pt_tokens Pt) (if (4000:Int32) < q1 then (4000:Int32) else q1) (Pt_tokenCount Pt) (Pt_position Pt) (Pt_total Pt) (Pt_least Pt) (Pt_most Pt) (Pt_depth Pt) (Pt_blockStarts Pt) (Pt_branchStarts Pt) (Pt_jumps Pt) (Pt_sizesBefore Pt)))) fun q3 =>
  o_bd (o_lp n (m_Pt_tokenise_b60 n a1) ((0:Int32), (0:Int32), (Pt_mk (Pt_tokens q3.2.2) (Pt_characterCount q3.2.2) (0:Int32) (0:Int32) (Pt_total q3.2.2) (Pt_least q3.2.2) (Pt_most q3.2.2) (Pt_depth q3.2.2) (Pt_blockStarts q3.2.2) (Pt_branchStarts q3.2.2) (Pt_jumps q3.2.2) (Pt_sizesBefore q3.2.2)))) fun q6 =>
  if q6.1 = 1 then
    some ((0:Int32), q6.2.2.2)
  else
  m_Pt_tokenise_j217 n q6.2.1 a1 q6.2.2.2
def m_Pg_clear (Pg : SPg) : Option (SPg) :=
  some (Pg_mk (Pg_operations Pg) (Pg_arguments Pg) (0:Int32) (Pg_sets Pg) (0:Int32) (Pg_rounds Pg) (Pg_stack Pg) (Pg_top Pg) (Pg_waiting Pg) (Pg_waitingCount Pg) (Pg_moved Pg))
def m_Pt_beginBlock (Pg : SPg) (Pt : SPt) : Option (SPt) :=
  o_gd (o_in (Pt_depth Pt) 31) <|
  o_gd (o_in (Pt_depth Pt) 31) <|
  o_gd (o_in (Pt_depth Pt) 31) <|
  o_gd (o_in (Pt_depth Pt) 31) <|
  some (Pt_mk (Pt_tokens Pt) (Pt_characterCount Pt) (Pt_tokenCount Pt) (Pt_position Pt) (Pt_total Pt) (Pt_least Pt) (Pt_most Pt) (Pt_depth Pt) (upd (Pt_blockStarts Pt) (Pt_depth Pt).toNatClampNeg (Pg_length Pg)) (upd (Pt_branchStarts Pt) (Pt_depth Pt).toNatClampNeg (Pg_length Pg)) (upd (Pt_jumps Pt) (Pt_depth Pt).toNatClampNeg (-1:Int32)) (upd (Pt_sizesBefore Pt) (Pt_depth Pt).toNatClampNeg (Pt_total Pt)))
def m_Pt_peek (x1 : Int32) (Pt : SPt) : Option (Int32) :=
  o_nm ((Pt_position Pt) + x1) fun x2_6 =>
  if x2_6 < 0 then
    some (-1:Int32)
  else
    if (Pt_tokenCount Pt) ≤ x2_6 then
      some (-1:Int32)
    else
      o_gd (o_in x2_6 4000) <|
      some ((Pt_tokens Pt) x2_6.toNatClampNeg)
def m_Pg_argument (x1 : Int32) (Pg : SPg) : Option (Int32) :=
  if x1 < 0 then
    some (-1:Int32)
  else
    if (1300:Int32) ≤ x1 then
      some (-1:Int32)
    else
      o_gd (o_in x1 1300) <|
      some ((Pg_arguments Pg) x1.toNatClampNeg)
def m_Pg_setArgument (x1 : Int32) (x2 : Int32) (Pg : SPg) : Option (SPg) :=
  if x1 < 0 then
    some Pg
  else
    if (1300:Int32) ≤ x1 then
      some Pg
    else
      o_gd (o_in x1 1300) <|
      some (Pg_mk (Pg_operations Pg) (upd (Pg_arguments Pg) x1.toNatClampNeg x2) (Pg_length Pg) (Pg_sets Pg) (Pg_setsUsed Pg) (Pg_rounds Pg) (Pg_stack Pg) (Pg_top Pg) (Pg_waiting Pg) (Pg_waitingCount Pg) (Pg_moved Pg))
def m_Pt_endBlock_b12 (n : Nat) (Pt : SPt) (z : Int32 × Int32 × SPg) : Option (Nat × Int32 × Int32 × SPg) :=
  if (1300:Int32) ≤ z.2.1 then
    some (1, z.1, z.2.1, z.2.2)
  else
    if z.1 = (-1:Int32) then
      some (1, z.1, z.2.1, z.2.2)
    else
      o_bd (m_Pg_argument z.1 z.2.2) fun q1 =>
      o_bd (m_Pg_setArgument z.1 ((Pg_length z.2.2) - z.1) z.2.2) fun q2 =>
      o_nm (z.2.1 + (1:Int32)) fun x2_52 =>
      some (0, q1, x2_52, q2)
def m_Pt_endBlock (n : Nat) (Pg : SPg) (Pt : SPt) : Option (SPg) :=
  o_gd (o_in (Pt_depth Pt) 31) <|
  o_nm ((Pt_jumps Pt) (Pt_depth Pt).toNatClampNeg) fun x1_9 =>
  o_bd (o_lp n (m_Pt_endBlock_b12 n Pt) (x1_9, (0:Int32), Pg)) fun q3 =>
  some q3.2.2.2
def m_Pt_openGroup_j43 (Pg : SPg) (Pt : SPt) : Option (Int32 × SPt) :=
  o_bd (m_Pt_beginBlock Pg (Pt_mk (Pt_tokens Pt) (Pt_characterCount Pt) (Pt_tokenCount Pt) (Pt_position Pt) (Pt_total Pt) (Pt_least Pt) (Pt_most Pt) ((Pt_depth Pt) + (1:Int32)) (Pt_blockStarts Pt) (Pt_branchStarts Pt) (Pt_jumps Pt) (Pt_sizesBefore Pt))) fun q2 =>
  some ((1:Int32), q2)
def m_Pt_openGroup (Pg : SPg) (Pt : SPt) : Option (Int32 × SPt) :=
  if (Pt_depth Pt) < (30:Int32) then
    o_bd (m_Pt_peek (0:Int32) Pt) fun q1 =>
    if q1 = (-63:Int32) then
      o_bd (m_Pt_peek (1:Int32) Pt) fun q3 =>
      if q3 = (58:Int32) then
        m_Pt_openGroup_j43 Pg (Pt_mk (Pt_tokens Pt) (Pt_characterCount Pt) (Pt_tokenCount Pt) ((Pt_position Pt) + (2:Int32)) (Pt_total Pt) (Pt_least Pt) (Pt_most Pt) (Pt_depth Pt) (Pt_blockStarts Pt) (Pt_branchStarts Pt) (Pt_jumps Pt) (Pt_sizesBefore Pt))
      else
        some ((0:Int32), Pt)
    else
      m_Pt_openGroup_j43 Pg Pt
  else
    some ((0:Int32), Pt)
def m_Pg_insert_j78 (Pg : SPg) : Option (SPg) :=
  some (Pg_mk (Pg_operations Pg) (Pg_arguments Pg) (if (1048576:Int32) < ((Pg_length Pg) + (1:Int32)) then (1048576:Int32) else ((Pg_length Pg) + (1:Int32))) (Pg_sets Pg) (Pg_setsUsed Pg) (Pg_rounds Pg) (Pg_stack Pg) (Pg_top Pg) (Pg_waiting Pg) (Pg_waitingCount Pg) (Pg_moved Pg))
def m_Pg_insert (x1 : Int32) (x2 : Int32) (x3 : Int32) (Pg : SPg) : Option (SPg) :=
  if x1 < 0 then
    m_Pg_insert_j78 Pg
  else
    if (Pg_length Pg) < x1 then
      m_Pg_insert_j78 Pg
    else
      if (1300:Int32) ≤ (Pg_length Pg) then
        m_Pg_insert_j78 Pg
      else
        o_gd (o_cp x1 (x1 + (1:Int32)) ((Pg_length Pg) - x1) 1300 1300) <|
        o_gd (o_cp x1 (x1 + (1:Int32)) ((Pg_length Pg) - x1) 1300 1300) <|
        o_gd (o_in x1 1300) <|
        o_gd (o_in x1 1300) <|
        m_Pg_insert_j78 (Pg_mk (upd (va_cpy (Pg_operations Pg) (Pg_operations Pg) x1.toNatClampNeg (x1 + (1:Int32)).toNatClampNeg ((Pg_length Pg) - x1).toNatClampNeg) x1.toNatClampNeg x2) (upd (va_cpy (Pg_arguments Pg) (Pg_arguments Pg) x1.toNatClampNeg (x1 + (1:Int32)).toNatClampNeg ((Pg_length Pg) - x1).toNatClampNeg) x1.toNatClampNeg x3) (Pg_length Pg) (Pg_sets Pg) (Pg_setsUsed Pg) (Pg_rounds Pg) (Pg_stack Pg) (Pg_top Pg) (Pg_waiting Pg) (Pg_waitingCount Pg) (Pg_moved Pg))
def m_Pg_emit_j30 (Pg : SPg) : Option (SPg) :=
  some (Pg_mk (Pg_operations Pg) (Pg_arguments Pg) (if (1048576:Int32) < ((Pg_length Pg) + (1:Int32)) then (1048576:Int32) else ((Pg_length Pg) + (1:Int32))) (Pg_sets Pg) (Pg_setsUsed Pg) (Pg_rounds Pg) (Pg_stack Pg) (Pg_top Pg) (Pg_waiting Pg) (Pg_waitingCount Pg) (Pg_moved Pg))
def m_Pg_emit (x1 : Int32) (x2 : Int32) (Pg : SPg) : Option (SPg) :=
  if (1300:Int32) ≤ (Pg_length Pg) then
    m_Pg_emit_j30 Pg
  else
    o_gd (o_in (Pg_length Pg) 1300) <|
    o_gd (o_in (Pg_length Pg) 1300) <|
    m_Pg_emit_j30 (Pg_mk (upd (Pg_operations Pg) (Pg_length Pg).toNatClampNeg x1) (upd (Pg_arguments Pg) (Pg_length Pg).toNatClampNeg x2) (Pg_length Pg) (Pg_sets Pg) (Pg_setsUsed Pg) (Pg_rounds Pg) (Pg_stack Pg) (Pg_top Pg) (Pg_waiting Pg) (Pg_waitingCount Pg) (Pg_moved Pg))
def m_Pt_nextBranch (Pg : SPg) (Pt : SPt) : Option (SPg × SPt) :=
  o_gd (o_in (Pt_depth Pt) 31) <|
  o_nm ((Pt_branchStarts Pt) (Pt_depth Pt).toNatClampNeg) fun x1_9 =>
  o_bd (m_Pg_insert x1_9 (6:Int32) (((Pg_length Pg) - x1_9) + (2:Int32)) Pg) fun q1 =>
  o_gd (o_in (Pt_depth Pt) 31) <|
  o_bd (m_Pg_emit (7:Int32) ((Pt_jumps Pt) (Pt_depth Pt).toNatClampNeg) q1) fun q2 =>
  o_gd (o_in (Pt_depth Pt) 31) <|
  o_gd (o_in (Pt_depth Pt) 31) <|
  some (q2, (Pt_mk (Pt_tokens Pt) (Pt_characterCount Pt) (Pt_tokenCount Pt) (Pt_position Pt) ((Pt_total Pt) + (1:Int32)) (Pt_least Pt) (Pt_most Pt) (Pt_depth Pt) (Pt_blockStarts Pt) (upd (Pt_branchStarts Pt) (Pt_depth Pt).toNatClampNeg (Pg_length q2)) (upd (Pt_jumps Pt) (Pt_depth Pt).toNatClampNeg ((Pg_length q2) - (1:Int32))) (Pt_sizesBefore Pt)))
def m_Pg_beginSet (Pg : SPg) : Option (Int32 × SPg) :=
  o_nm (Pg_setsUsed Pg) fun x1_4 =>
  if (8000:Int32) < ((Pg_setsUsed Pg) + (2:Int32)) then
    some (x1_4, Pg)
  else
    o_gd (o_in x1_4 8000) <|
    o_gd (o_in (x1_4 + (1:Int32)) 8000) <|
    some (x1_4, (Pg_mk (Pg_operations Pg) (Pg_arguments Pg) (Pg_length Pg) (upd (upd (Pg_sets Pg) x1_4.toNatClampNeg (0:Int32)) (x1_4 + (1:Int32)).toNatClampNeg (0:Int32)) ((Pg_setsUsed Pg) + (2:Int32)) (Pg_rounds Pg) (Pg_stack Pg) (Pg_top Pg) (Pg_waiting Pg) (Pg_waitingCount Pg) (Pg_moved Pg)))
def m_Pg_addClass (x1 : Int32) (x2 : Int32) (Pg : SPg) : Option (SPg) :=
  if x1 < 0 then
    some Pg
  else
    if (8000:Int32) ≤ (x1 + (1:Int32)) then
      some Pg
    else
      o_gd (o_in (x1 + (1:Int32)) 8000) <|
      o_gd (o_in (x1 + (1:Int32)) 8000) <|
      some (Pg_mk (Pg_operations Pg) (Pg_arguments Pg) (Pg_length Pg) (upd (Pg_sets Pg) (x1 + (1:Int32)).toNatClampNeg (((Pg_sets Pg) (x1 + (1:Int32)).toNatClampNeg) ||| x2)) (Pg_setsUsed Pg) (Pg_rounds Pg) (Pg_stack Pg) (Pg_top Pg) (Pg_waiting Pg) (Pg_waitingCount Pg) (Pg_moved Pg))
def m_Pg_addRange (x1 : Int32) (x2 : Int32) (x3 : Int32) (Pg : SPg) : Option (SPg) :=
  if x1 < 0 then
    some Pg
  else
    if (8000:Int32) ≤ x1 then
      some Pg
    else
      if (8000:Int32) < ((Pg_setsUsed Pg) + (2:Int32)) then
        some Pg
      else
        o_gd (o_in x1 8000) <|
        o_gd (o_in x1 8000) <|
        o_gd (o_in (Pg_setsUsed Pg) 8000) <|
        o_gd (o_in ((Pg_setsUsed Pg) + (1:Int32)) 8000) <|
        some (Pg_mk (Pg_operations Pg) (Pg_arguments Pg) (Pg_length Pg) (upd (upd (upd (Pg_sets Pg) x1.toNatClampNeg (((Pg_sets Pg) x1.toNatClampNeg) + (1:Int32))) (Pg_setsUsed Pg).toNatClampNeg x2) ((Pg_setsUsed Pg) + (1:Int32)).toNatClampNeg x3) ((Pg_setsUsed Pg) + (2:Int32)) (Pg_rounds Pg) (Pg_stack Pg) (Pg_top Pg) (Pg_waiting Pg) (Pg_waitingCount Pg) (Pg_moved Pg))
def m_Pt_readSet_j129 (n : Nat) (x1 : Int32) (x2 : Int32) (x3 : Int32) (x4 : Int32) (Pg : SPg) (Pt : SPt) : Option (Nat × Int32 × SPg × SPt) :=
  if x3 < 0 then
    some (3, x2, Pg, Pt)
  else
    if x4 < 0 then
      some (3, x2, Pg, Pt)
    else
      if (x3 &&& (2097151:Int32)) ≤ (x4 &&& (2097151:Int32)) then
        if (x3 &&& (4194304:Int32)) = 0 then
          o_bd (m_Pg_addRange x1 (x3 &&& (2097151:Int32)) (x4 &&& (2097151:Int32)) Pg) fun q5 =>
          o_nm (x2 + (1:Int32)) fun x2_191 =>
          some (0, x2_191, q5, Pt)
        else
          o_bd (m_Pg_addClass x1 (x3 &&& (-4194305:Int32)) Pg) fun q6 =>
          o_nm (x2 + (1:Int32)) fun x2_191 =>
          some (0, x2_191, q6, Pt)
      else
        some (3, x2, Pg, Pt)
def m_Pt_readSet_b40 (n : Nat) (x1 : Int32) (z : Int32 × SPg × SPt) : Option (Nat × Int32 × SPg × SPt) :=
  if (Pt_tokenCount z.2.2) ≤ z.1 then
    some (4, z.1, z.2.1, z.2.2)
  else
    o_bd (m_Pt_peek (0:Int32) z.2.2) fun q3 =>
    if q3 = (-93:Int32) then
      some (1, z.1, z.2.1, (Pt_mk (Pt_tokens z.2.2) (Pt_characterCount z.2.2) (Pt_tokenCount z.2.2) ((Pt_position z.2.2) + (1:Int32)) (Pt_total z.2.2) (Pt_least z.2.2) (Pt_most z.2.2) (Pt_depth z.2.2) (Pt_blockStarts z.2.2) (Pt_branchStarts z.2.2) (Pt_jumps z.2.2) (Pt_sizesBefore z.2.2)))
    else
      o_bd (m_Pt_peek (0:Int32) (Pt_mk (Pt_tokens z.2.2) (Pt_characterCount z.2.2) (Pt_tokenCount z.2.2) ((Pt_position z.2.2) + (1:Int32)) (Pt_total z.2.2) (Pt_least z.2.2) (Pt_most z.2.2) (Pt_depth z.2.2) (Pt_blockStarts z.2.2) (Pt_branchStarts z.2.2) (Pt_jumps z.2.2) (Pt_sizesBefore z.2.2))) fun q4 =>
      if q4 = (45:Int32) then
        o_bd (m_Pt_peek (1:Int32) (Pt_mk (Pt_tokens z.2.2) (Pt_characterCount z.2.2) (Pt_tokenCount z.2.2) ((Pt_position z.2.2) + (1:Int32)) (Pt_total z.2.2) (Pt_least z.2.2) (Pt_most z.2.2) (Pt_depth z.2.2) (Pt_blockStarts z.2.2) (Pt_branchStarts z.2.2) (Pt_jumps z.2.2) (Pt_sizesBefore z.2.2))) fun q7 =>
        if q7 = (-93:Int32) then
          m_Pt_readSet_j129 n x1 z.1 q3 q3 z.2.1 (Pt_mk (Pt_tokens z.2.2) (Pt_characterCount z.2.2) (Pt_tokenCount z.2.2) ((Pt_position z.2.2) + (1:Int32)) (Pt_total z.2.2) (Pt_least z.2.2) (Pt_most z.2.2) (Pt_depth z.2.2) (Pt_blockStarts z.2.2) (Pt_branchStarts z.2.2) (Pt_jumps z.2.2) (Pt_sizesBefore z.2.2))
        else
          o_bd (m_Pt_peek (1:Int32) (Pt_mk (Pt_tokens z.2.2) (Pt_characterCount z.2.2) (Pt_tokenCount z.2.2) ((Pt_position z.2.2) + (1:Int32)) (Pt_total z.2.2) (Pt_least z.2.2) (Pt_most z.2.2) (Pt_depth z.2.2) (Pt_blockStarts z.2.2) (Pt_branchStarts z.2.2) (Pt_jumps z.2.2) (Pt_sizesBefore z.2.2))) fun q8 =>
          if (q3 &&& (4194304:Int32)) = 0 then
            if (q8 &&& (4194304:Int32)) = 0 then
              m_Pt_readSet_j129 n x1 z.1 q3 q8 z.2.1 (Pt_mk (Pt_tokens z.2.2) (Pt_characterCount z.2.2) (Pt_tokenCount z.2.2) (((Pt_position z.2.2) + (1:Int32)) + (2:Int32)) (Pt_total z.2.2) (Pt_least z.2.2) (Pt_most z.2.2) (Pt_depth z.2.2) (Pt_blockStarts z.2.2) (Pt_branchStarts z.2.2) (Pt_jumps z.2.2) (Pt_sizesBefore z.2.2))
            else
              some (2, z.1, z.2.1, (Pt_mk (Pt_tokens z.2.2) (Pt_characterCount z.2.2) (Pt_tokenCount z.2.2) (((Pt_position z.2.2) + (1:Int32)) + (2:Int32)) (Pt_total z.2.2) (Pt_least z.2.2) (Pt_most z.2.2) (Pt_depth z.2.2) (Pt_blockStarts z.2.2) (Pt_branchStarts z.2.2) (Pt_jumps z.2.2) (Pt_sizesBefore z.2.2)))
          else
            some (2, z.1, z.2.1, (Pt_mk (Pt_tokens z.2.2) (Pt_characterCount z.2.2) (Pt_tokenCount z.2.2) (((Pt_position z.2.2) + (1:Int32)) + (2:Int32)) (Pt_total z.2.2) (Pt_least z.2.2) (Pt_most z.2.2) (Pt_depth z.2.2) (Pt_blockStarts z.2.2) (Pt_branchStarts z.2.2) (Pt_jumps z.2.2) (Pt_sizesBefore z.2.2)))
      else
        m_Pt_readSet_j129 n x1 z.1 q3 q3 z.2.1 (Pt_mk (Pt_tokens z.2.2) (Pt_characterCount z.2.2) (Pt_tokenCount z.2.2) ((Pt_position z.2.2) + (1:Int32)) (Pt_total z.2.2) (Pt_least z.2.2) (Pt_most z.2.2) (Pt_depth z.2.2) (Pt_blockStarts z.2.2) (Pt_branchStarts z.2.2) (Pt_jumps z.2.2) (Pt_sizesBefore z.2.2))
def m_Pt_readSet (n : Nat) (Pg : SPg) (Pt : SPt) : Option (Int32 × SPg × SPt) :=
  o_bd (m_Pg_beginSet Pg) fun q1 =>
  o_bd (m_Pt_peek (0:Int32) Pt) fun q2 =>
  if q2 = (94:Int32) then
    o_bd (m_Pg_addClass q1.1 (64:Int32) q1.2) fun q10 =>
    o_bd (o_lp n (m_Pt_readSet_b40 n q1.1) ((0:Int32), q10, (Pt_mk (Pt_tokens Pt) (Pt_characterCount Pt) (Pt_tokenCount Pt) ((Pt_position Pt) + (1:Int32)) (Pt_total Pt) (Pt_least Pt) (Pt_most Pt) (Pt_depth Pt) (Pt_blockStarts Pt) (Pt_branchStarts Pt) (Pt_jumps Pt) (Pt_sizesBefore Pt)))) fun q11 =>
    if q11.1 = 1 then
      some (q1.1, q11.2.2.1, q11.2.2.2)
    else
    if q11.1 = 2 then
      some ((-1:Int32), q11.2.2.1, q11.2.2.2)
    else
    if q11.1 = 3 then
      some ((-1:Int32), q11.2.2.1, q11.2.2.2)
    else
    some ((-1:Int32), q11.2.2.1, q11.2.2.2)
  else
    o_bd (o_lp n (m_Pt_readSet_b40 n q1.1) ((0:Int32), q1.2, Pt)) fun q9 =>
    if q9.1 = 1 then
      some (q1.1, q9.2.2.1, q9.2.2.2)
    else
    if q9.1 = 2 then
      some ((-1:Int32), q9.2.2.1, q9.2.2.2)
    else
    if q9.1 = 3 then
      some ((-1:Int32), q9.2.2.1, q9.2.2.2)
    else
    some ((-1:Int32), q9.2.2.1, q9.2.2.2)
def m_Pt_single_j139 (x1 : Int32) (Pg : SPg) (Pt : SPt) : Option (Int32 × SPg × SPt) :=
  if x1 < 0 then
    some ((0:Int32), Pg, Pt)
  else
    some ((1:Int32), Pg, Pt)
def m_Pt_single (x1 : Int32) (x2 : Int32) (Pg : SPg) (Pt : SPt) : Option (Int32 × SPg × SPt) :=
  if x1 = (-94:Int32) then
    o_bd (m_Pg_emit (4:Int32) (0:Int32) Pg) fun q1 =>
    some ((1:Int32), q1, (Pt_mk (Pt_tokens Pt) (Pt_characterCount Pt) (Pt_tokenCount Pt) (Pt_position Pt) ((Pt_total Pt) + (1:Int32)) (Pt_least Pt) (Pt_most Pt) (Pt_depth Pt) (Pt_blockStarts Pt) (Pt_branchStarts Pt) (Pt_jumps Pt) (Pt_sizesBefore Pt)))
  else
  if x1 = (-91:Int32) then
    o_bd (m_Pg_emit (3:Int32) x2 Pg) fun q2 =>
    if x2 = (-1:Int32) then
      some ((0:Int32), q2, (Pt_mk (Pt_tokens Pt) (Pt_characterCount Pt) (Pt_tokenCount Pt) (Pt_position Pt) ((Pt_total Pt) + (1:Int32)) (Pt_least Pt) (Pt_most Pt) (Pt_depth Pt) (Pt_blockStarts Pt) (Pt_branchStarts Pt) (Pt_jumps Pt) (Pt_sizesBefore Pt)))
    else
      some ((1:Int32), q2, (Pt_mk (Pt_tokens Pt) (Pt_characterCount Pt) (Pt_tokenCount Pt) (Pt_position Pt) ((Pt_total Pt) + (1:Int32)) (Pt_least Pt) (Pt_most Pt) (Pt_depth Pt) (Pt_blockStarts Pt) (Pt_branchStarts Pt) (Pt_jumps Pt) (Pt_sizesBefore Pt)))
  else
  if x1 = (-46:Int32) then
    o_bd (m_Pg_emit (1:Int32) (0:Int32) Pg) fun q3 =>
    some ((1:Int32), q3, (Pt_mk (Pt_tokens Pt) (Pt_characterCount Pt) (Pt_tokenCount Pt) (Pt_position Pt) ((Pt_total Pt) + (1:Int32)) (Pt_least Pt) (Pt_most Pt) (Pt_depth Pt) (Pt_blockStarts Pt) (Pt_branchStarts Pt) (Pt_jumps Pt) (Pt_sizesBefore Pt)))
  else
  if x1 = (-36:Int32) then
    o_bd (m_Pg_emit (5:Int32) (0:Int32) Pg) fun q4 =>
    some ((1:Int32), q4, (Pt_mk (Pt_tokens Pt) (Pt_characterCount Pt) (Pt_tokenCount Pt) (Pt_position Pt) ((Pt_total Pt) + (1:Int32)) (Pt_least Pt) (Pt_most Pt) (Pt_depth Pt) (Pt_blockStarts Pt) (Pt_branchStarts Pt) (Pt_jumps Pt) (Pt_sizesBefore Pt)))
  else
  if (x1 &&& (4194304:Int32)) = 0 then
    o_bd (m_Pg_emit (0:Int32) (x1 &&& (2097151:Int32)) Pg) fun q5 =>
    m_Pt_single_j139 x1 q5 (Pt_mk (Pt_tokens Pt) (Pt_characterCount Pt) (Pt_tokenCount Pt) (Pt_position Pt) ((Pt_total Pt) + (1:Int32)) (Pt_least Pt) (Pt_most Pt) (Pt_depth Pt) (Pt_blockStarts Pt) (Pt_branchStarts Pt) (Pt_jumps Pt) (Pt_sizesBefore Pt))
  else
    o_bd (m_Pg_emit (2:Int32) (x1 &&& (-4194305:Int32)) Pg) fun q6 =>
    m_Pt_single_j139 x1 q6 (Pt_mk (Pt_tokens Pt) (Pt_characterCount Pt) (Pt_tokenCount Pt) (Pt_position Pt) ((Pt_total Pt) + (1:Int32)) (Pt_least Pt) (Pt_most Pt) (Pt_depth Pt) (Pt_blockStarts Pt) (Pt_branchStarts Pt) (Pt_jumps Pt) (Pt_sizesBefore Pt))
def m_Pt_isQuantifier (x0 : Int32) : Option (Int32) :=
  if x0 = (-42:Int32) then
    some (1:Int32)
  else
    if x0 = (-43:Int32) then
      some (1:Int32)
    else
      if x0 = (-63:Int32) then
        some (1:Int32)
      else
        if x0 = (-123:Int32) then
          some (1:Int32)
        else
          some (0:Int32)
def m_Pt_readNumber_j33 (n : Nat) (x1 : Int32) (x2 : Int32) (y0 : Int32) (Pt : SPt) : Option (Nat × Int32 × Int32 × SPt) :=
  if y0 < (48:Int32) then
    some (1, x1, x2, Pt)
  else
    if y0 ≤ (57:Int32) then
      o_nm ((((if x1 < (0:Int32) then (0:Int32) else x1) * (10:Int32)) + y0) - (48:Int32)) fun x1_61 =>
      o_nm (x2 + (1:Int32)) fun x2_72 =>
      some (0, x1_61, x2_72, (Pt_mk (Pt_tokens Pt) (Pt_characterCount Pt) (Pt_tokenCount Pt) ((Pt_position Pt) + (1:Int32)) (Pt_total Pt) (Pt_least Pt) (Pt_most Pt) (Pt_depth Pt) (Pt_blockStarts Pt) (Pt_branchStarts Pt) (Pt_jumps Pt) (Pt_sizesBefore Pt)))
    else
      some (1, x1, x2, Pt)
def m_Pt_readNumber_b4 (n : Nat) (z : Int32 × Int32 × SPt) : Option (Nat × Int32 × Int32 × SPt) :=
  if (3:Int32) ≤ z.2.1 then
    some (2, z.1, z.2.1, z.2.2)
  else
    if (Pt_tokenCount z.2.2) ≤ (Pt_position z.2.2) then
      m_Pt_readNumber_j33 n z.1 z.2.1 (-1:Int32) z.2.2
    else
      o_gd (o_in (Pt_position z.2.2) 4000) <|
      m_Pt_readNumber_j33 n z.1 z.2.1 ((Pt_tokens z.2.2) (Pt_position z.2.2).toNatClampNeg) z.2.2
def m_Pt_readNumber (n : Nat) (Pt : SPt) : Option (Int32 × SPt) :=
  o_bd (o_lp n (m_Pt_readNumber_b4 n) ((-1:Int32), (0:Int32), Pt)) fun q1 =>
  if q1.1 = 1 then
    some (q1.2.1, q1.2.2.2)
  else
  some (q1.2.1, q1.2.2.2)
def m_Pt_readQuantifier_j181 (n : Nat) (x2 : Int32) (Pt : SPt) : Option (Int32 × SPt) :=
  if x2 = 0 then
    some ((0:Int32), Pt)
  else
    if (50:Int32) < (Pt_least Pt) then
      some ((0:Int32), Pt)
    else
      if (50:Int32) < (Pt_most Pt) then
        some ((0:Int32), Pt)
      else
        some ((1:Int32), Pt)
def m_Pt_readQuantifier_j161 (n : Nat) (x2 : Int32) (Pt : SPt) : Option (Int32 × SPt) :=
  o_bd (m_Pt_peek (0:Int32) Pt) fun q2 =>
  if q2 = (-63:Int32) then
    m_Pt_readQuantifier_j181 n x2 (Pt_mk (Pt_tokens Pt) (Pt_characterCount Pt) (Pt_tokenCount Pt) ((Pt_position Pt) + (1:Int32)) (Pt_total Pt) (Pt_least Pt) (Pt_most Pt) (Pt_depth Pt) (Pt_blockStarts Pt) (Pt_branchStarts Pt) (Pt_jumps Pt) (Pt_sizesBefore Pt))
  else
    m_Pt_readQuantifier_j181 n x2 Pt
def m_Pt_readQuantifier_j150 (n : Nat) (y0 : Int32) (Pt : SPt) : Option (Int32 × SPt) :=
  m_Pt_readQuantifier_j161 n y0 (Pt_mk (Pt_tokens Pt) (Pt_characterCount Pt) (Pt_tokenCount Pt) ((Pt_position Pt) + (1:Int32)) (Pt_total Pt) (Pt_least Pt) (Pt_most Pt) (Pt_depth Pt) (Pt_blockStarts Pt) (Pt_branchStarts Pt) (Pt_jumps Pt) (Pt_sizesBefore Pt))
def m_Pt_readQuantifier_j112 (n : Nat) (x2 : Int32) (Pt : SPt) : Option (Int32 × SPt) :=
  if x2 = 0 then
    m_Pt_readQuantifier_j150 n (0:Int32) Pt
  else
    o_bd (m_Pt_peek (0:Int32) Pt) fun q5 =>
    if q5 = (-125:Int32) then
      if (Pt_most Pt) = (-1:Int32) then
        m_Pt_readQuantifier_j150 n (1:Int32) Pt
      else
        if (Pt_most Pt) < (Pt_least Pt) then
          m_Pt_readQuantifier_j150 n (0:Int32) Pt
        else
          m_Pt_readQuantifier_j150 n (1:Int32) Pt
    else
      m_Pt_readQuantifier_j150 n (0:Int32) Pt
def m_Pt_readQuantifier_j83 (n : Nat) (y0 : Int32) (Pt : SPt) : Option (Int32 × SPt) :=
  o_bd (m_Pt_peek (0:Int32) Pt) fun q4 =>
  if q4 = (44:Int32) then
    o_bd (m_Pt_readNumber n (Pt_mk (Pt_tokens Pt) (Pt_characterCount Pt) (Pt_tokenCount Pt) ((Pt_position Pt) + (1:Int32)) (Pt_total Pt) (Pt_least Pt) (Pt_most Pt) (Pt_depth Pt) (Pt_blockStarts Pt) (Pt_branchStarts Pt) (Pt_jumps Pt) (Pt_sizesBefore Pt))) fun q6 =>
    m_Pt_readQuantifier_j112 n y0 (Pt_mk (Pt_tokens q6.2) (Pt_characterCount q6.2) (Pt_tokenCount q6.2) (Pt_position q6.2) (Pt_total q6.2) (Pt_least q6.2) q6.1 (Pt_depth q6.2) (Pt_blockStarts q6.2) (Pt_branchStarts q6.2) (Pt_jumps q6.2) (Pt_sizesBefore q6.2))
  else
    m_Pt_readQuantifier_j112 n y0 Pt
def m_Pt_readQuantifier_j43 (n : Nat) (x1 : Int32) (y1 : Int32) (Pt : SPt) : Option (Int32 × SPt) :=
  if x1 = (-123:Int32) then
    o_bd (m_Pt_readNumber n (Pt_mk (Pt_tokens Pt) (Pt_characterCount Pt) (Pt_tokenCount Pt) (Pt_position Pt) (Pt_total Pt) (Pt_least Pt) y1 (Pt_depth Pt) (Pt_blockStarts Pt) (Pt_branchStarts Pt) (Pt_jumps Pt) (Pt_sizesBefore Pt))) fun q3 =>
    if q3.1 = (-1:Int32) then
      m_Pt_readQuantifier_j83 n (0:Int32) (Pt_mk (Pt_tokens q3.2) (Pt_characterCount q3.2) (Pt_tokenCount q3.2) (Pt_position q3.2) (Pt_total q3.2) q3.1 q3.1 (Pt_depth q3.2) (Pt_blockStarts q3.2) (Pt_branchStarts q3.2) (Pt_jumps q3.2) (Pt_sizesBefore q3.2))
    else
      m_Pt_readQuantifier_j83 n (1:Int32) (Pt_mk (Pt_tokens q3.2) (Pt_characterCount q3.2) (Pt_tokenCount q3.2) (Pt_position q3.2) (Pt_total q3.2) q3.1 q3.1 (Pt_depth q3.2) (Pt_blockStarts q3.2) (Pt_branchStarts q3.2) (Pt_jumps q3.2) (Pt_sizesBefore q3.2))
  else
    m_Pt_readQuantifier_j161 n (1:Int32) (Pt_mk (Pt_tokens Pt) (Pt_characterCount Pt) (Pt_tokenCount Pt) (Pt_position Pt) (Pt_total Pt) (Pt_least Pt) y1 (Pt_depth Pt) (Pt_blockStarts Pt) (Pt_branchStarts Pt) (Pt_jumps Pt) (Pt_sizesBefore Pt))
def m_Pt_readQuantifier_j28 (n : Nat) (x1 : Int32) (y1 : Int32) (Pt : SPt) : Option (Int32 × SPt) :=
  if x1 = (-63:Int32) then
    m_Pt_readQuantifier_j43 n x1 (1:Int32) (Pt_mk (Pt_tokens Pt) (Pt_characterCount Pt) (Pt_tokenCount Pt) (Pt_position Pt) (Pt_total Pt) y1 (Pt_most Pt) (Pt_depth Pt) (Pt_blockStarts Pt) (Pt_branchStarts Pt) (Pt_jumps Pt) (Pt_sizesBefore Pt))
  else
    m_Pt_readQuantifier_j43 n x1 (-1:Int32) (Pt_mk (Pt_tokens Pt) (Pt_characterCount Pt) (Pt_tokenCount Pt) (Pt_position Pt) (Pt_total Pt) y1 (Pt_most Pt) (Pt_depth Pt) (Pt_blockStarts Pt) (Pt_branchStarts Pt) (Pt_jumps Pt) (Pt_sizesBefore Pt))
def m_Pt_readQuantifier (n : Nat) (Pt : SPt) : Option (Int32 × SPt) :=
  o_bd (m_Pt_peek (0:Int32) Pt) fun q1 =>
  if q1 = (-43:Int32) then
    m_Pt_readQuantifier_j28 n q1 (1:Int32) (Pt_mk (Pt_tokens Pt) (Pt_characterCount Pt) (Pt_tokenCount Pt) ((Pt_position Pt) + (1:Int32)) (Pt_total Pt) (Pt_least Pt) (Pt_most Pt) (Pt_depth Pt) (Pt_blockStarts Pt) (Pt_branchStarts Pt) (Pt_jumps Pt) (Pt_sizesBefore Pt))
  else
    m_Pt_readQuantifier_j28 n q1 (0:Int32) (Pt_mk (Pt_tokens Pt) (Pt_characterCount Pt) (Pt_tokenCount Pt) ((Pt_position Pt) + (1:Int32)) (Pt_total Pt) (Pt_least Pt) (Pt_most Pt) (Pt_depth Pt) (Pt_blockStarts Pt) (Pt_branchStarts Pt) (Pt_jumps Pt) (Pt_sizesBefore Pt))
def m_Pg_copy_j64 (x2 : Int32) (Pg : SPg) : Option (SPg) :=
  some (Pg_mk (Pg_operations Pg) (Pg_arguments Pg) (if (1048576:Int32) < ((Pg_length Pg) + x2) then (1048576:Int32) else ((Pg_length Pg) + x2)) (Pg_sets Pg) (Pg_setsUsed Pg) (Pg_rounds Pg) (Pg_stack Pg) (Pg_top Pg) (Pg_waiting Pg) (Pg_waitingCount Pg) (Pg_moved Pg))
def m_Pg_copy (x1 : Int32) (x2 : Int32) (Pg : SPg) : Option (SPg) :=
  if x1 < 0 then
    m_Pg_copy_j64 x2 Pg
  else
    if x2 < 0 then
      m_Pg_copy_j64 x2 Pg
    else
      if (Pg_length Pg) < (x1 + x2) then
        m_Pg_copy_j64 x2 Pg
      else
        if (1300:Int32) < ((Pg_length Pg) + x2) then
          m_Pg_copy_j64 x2 Pg
        else
          o_gd (o_cp x1 (Pg_length Pg) x2 1300 1300) <|
          o_gd (o_cp x1 (Pg_length Pg) x2 1300 1300) <|
          m_Pg_copy_j64 x2 (Pg_mk (va_cpy (Pg_operations Pg) (Pg_operations Pg) x1.toNatClampNeg (Pg_length Pg).toNatClampNeg x2.toNatClampNeg) (va_cpy (Pg_arguments Pg) (Pg_arguments Pg) x1.toNatClampNeg (Pg_length Pg).toNatClampNeg x2.toNatClampNeg) (Pg_length Pg) (Pg_sets Pg) (Pg_setsUsed Pg) (Pg_rounds Pg) (Pg_stack Pg) (Pg_top Pg) (Pg_waiting Pg) (Pg_waitingCount Pg) (Pg_moved Pg))
def m_Pg_repeat_b99 (n : Nat) (x1 : Int32) (x2 : Int32) (x3 : Int32) (x4 : Int32) (z : Int32 × SPg) : Option (Nat × Int32 × SPg) :=
  if x2 ≤ z.1 then
    some (1, z.1, z.2)
  else
    o_bd (m_Pg_copy x1 x4 z.2) fun q1 =>
    o_nm (z.1 + (1:Int32)) fun x5_112 =>
    some (0, x5_112, q1)
def m_Pg_repeat_b135 (n : Nat) (x1 : Int32) (x3 : Int32) (x4 : Int32) (z : Int32 × SPg) : Option (Nat × Int32 × SPg) :=
  if x3 ≤ z.1 then
    some (1, z.1, z.2)
  else
    o_bd (m_Pg_emit (6:Int32) (x4 + (1:Int32)) z.2) fun q3 =>
    o_bd (m_Pg_copy x1 x4 q3) fun q4 =>
    o_nm (z.1 + (1:Int32)) fun x5_158 =>
    some (0, x5_158, q4)
def m_Pg_repeat_b74 (n : Nat) (x1 : Int32) (x3 : Int32) (x4 : Int32) (z : Int32 × SPg) : Option (Nat × Int32 × SPg) :=
  if x3 ≤ z.1 then
    some (1, z.1, z.2)
  else
    o_bd (m_Pg_copy x1 (x4 + (1:Int32)) z.2) fun q9 =>
    o_nm (z.1 + (1:Int32)) fun x5_89 =>
    some (0, x5_89, q9)
def m_Pg_repeat_j52 (n : Nat) (x1 : Int32) (x3 : Int32) (x4 : Int32) (y1 : Int32) (y2 : Int32) (y3 : Int32) (Pg : SPg) : Option (SPg) :=
  o_bd (m_Pg_insert y1 y2 y3 Pg) fun q8 =>
  if x3 = (-1:Int32) then
    o_bd (m_Pg_emit (7:Int32) (-(x4 + (1:Int32))) q8) fun q11 =>
    o_bd (o_lp n (m_Pg_repeat_b74 n x1 x3 x4) ((1:Int32), q11)) fun q12 =>
    some q12.2.2
  else
    o_bd (o_lp n (m_Pg_repeat_b74 n x1 x3 x4) ((1:Int32), q8)) fun q10 =>
    some q10.2.2
def m_Pg_repeat (n : Nat) (x1 : Int32) (x2 : Int32) (x3 : Int32) (Pg : SPg) : Option (SPg) :=
  o_nm ((Pg_length Pg) - x1) fun x4_6 =>
  if x1 < 0 then
    some Pg
  else
    if 0 < x4_6 then
      if x3 = 0 then
        some (Pg_mk (Pg_operations Pg) (Pg_arguments Pg) x1 (Pg_sets Pg) (Pg_setsUsed Pg) (Pg_rounds Pg) (Pg_stack Pg) (Pg_top Pg) (Pg_waiting Pg) (Pg_waitingCount Pg) (Pg_moved Pg))
      else
        if x2 = 0 then
          if x3 = (-1:Int32) then
            m_Pg_repeat_j52 n x1 x3 x4_6 x1 (6:Int32) (x4_6 + (2:Int32)) Pg
          else
            m_Pg_repeat_j52 n x1 x3 x4_6 x1 (6:Int32) (x4_6 + (1:Int32)) Pg
        else
          o_bd (o_lp n (m_Pg_repeat_b99 n x1 x2 x3 x4_6) ((1:Int32), Pg)) fun q2 =>
          if x3 = (-1:Int32) then
            o_bd (m_Pg_emit (6:Int32) (-x4_6) q2.2.2) fun q6 =>
            o_bd (o_lp n (m_Pg_repeat_b135 n x1 x3 x4_6) (x2, q6)) fun q7 =>
            some q7.2.2
          else
            o_bd (o_lp n (m_Pg_repeat_b135 n x1 x3 x4_6) (x2, q2.2.2)) fun q5 =>
            some q5.2.2
    else
      some Pg
def m_Pt_parse_j325 (n : Nat) (x1 : Int32) (x6 : Int32) (Pg : SPg) (Pt : SPt) : Option (Nat × Int32 × SPg × SPt) :=
  if x6 = 0 then
    some (1, x1, Pg, Pt)
  else
    if (Pt_depth Pt) = 0 then
      if (Pt_total Pt) ≤ (400:Int32) then
        o_nm (x1 + (1:Int32)) fun x1_349 =>
        some (0, x1_349, Pg, Pt)
      else
        some (1, x1, Pg, Pt)
    else
      o_nm (x1 + (1:Int32)) fun x1_349 =>
      some (0, x1_349, Pg, Pt)
def m_Pt_parse_j286 (n : Nat) (x1 : Int32) (x3 : Int32) (x4 : Int32) (x6 : Int32) (y0 : Int32) (y1 : Int32) (Pg : SPg) (Pt : SPt) : Option (Nat × Int32 × SPg × SPt) :=
  o_nm (y0 * y1) fun x7_287 =>
  o_bd (m_Pg_repeat n x3 (Pt_least Pt) (Pt_most Pt) Pg) fun q8 =>
  m_Pt_parse_j325 n x1 x6 q8 (Pt_mk (Pt_tokens Pt) (Pt_characterCount Pt) (Pt_tokenCount Pt) (Pt_position Pt) (if (1048576:Int32) < ((x4 + (if x7_287 < (1:Int32) then (1:Int32) else x7_287)) + (1:Int32)) then (1048576:Int32) else ((x4 + (if x7_287 < (1:Int32) then (1:Int32) else x7_287)) + (1:Int32))) (Pt_least Pt) (Pt_most Pt) (Pt_depth Pt) (Pt_blockStarts Pt) (Pt_branchStarts Pt) (Pt_jumps Pt) (Pt_sizesBefore Pt))
def m_Pt_parse_j226 (n : Nat) (x1 : Int32) (x3 : Int32) (x4 : Int32) (x5 : Int32) (x6 : Int32) (Pg : SPg) (Pt : SPt) : Option (Nat × Int32 × SPg × SPt) :=
  if x6 = 0 then
    m_Pt_parse_j325 n x1 x6 Pg Pt
  else
    if x5 = 0 then
      m_Pt_parse_j325 n x1 x6 Pg Pt
    else
      o_bd (m_Pt_peek (0:Int32) Pt) fun q5 =>
      o_bd (m_Pt_isQuantifier q5) fun q6 =>
      if q6 = 0 then
        m_Pt_parse_j325 n x1 x6 Pg Pt
      else
        o_bd (m_Pt_readQuantifier n Pt) fun q7 =>
        if q7.1 = 0 then
          m_Pt_parse_j325 n x1 q7.1 Pg q7.2
        else
          if (Pt_most q7.2) = (-1:Int32) then
            m_Pt_parse_j286 n x1 x3 x4 q7.1 ((Pt_total q7.2) - x4) ((Pt_least q7.2) + (1:Int32)) Pg q7.2
          else
            m_Pt_parse_j286 n x1 x3 x4 q7.1 ((Pt_total q7.2) - x4) (Pt_most q7.2) Pg q7.2
def m_Pt_parse_j221 (n : Nat) (x1 : Int32) (x3 : Int32) (x4 : Int32) (x5 : Int32) (y1 : Int32) (y2 : Int32) (Pg : SPg) (Pt : SPt) : Option (Nat × Int32 × SPg × SPt) :=
  o_bd (m_Pt_single y1 y2 Pg Pt) fun q4 =>
  m_Pt_parse_j226 n x1 x3 x4 x5 q4.1 q4.2.1 q4.2.2
def m_Pt_parse_j128 (n : Nat) (x1 : Int32) (x5 : Int32) (y0 : Int32) (Pg : SPg) (Pt : SPt) : Option (Nat × Int32 × SPg × SPt) :=
  o_gd (o_in (Pt_depth Pt) 31) <|
  o_nm ((Pt_blockStarts Pt) (Pt_depth Pt).toNatClampNeg) fun x3_139 =>
  o_gd (o_in (Pt_depth Pt) 31) <|
  o_nm ((Pt_sizesBefore Pt) (Pt_depth Pt).toNatClampNeg) fun x4_149 =>
  o_bd (m_Pt_endBlock n Pg Pt) fun q12 =>
  if y0 = 0 then
    m_Pt_parse_j226 n x1 x3_139 x4_149 x5 y0 q12 (Pt_mk (Pt_tokens Pt) (Pt_characterCount Pt) (Pt_tokenCount Pt) (Pt_position Pt) (Pt_total Pt) (Pt_least Pt) (Pt_most Pt) ((Pt_depth Pt) - (0:Int32)) (Pt_blockStarts Pt) (Pt_branchStarts Pt) (Pt_jumps Pt) (Pt_sizesBefore Pt))
  else
    m_Pt_parse_j226 n x1 x3_139 x4_149 x5 y0 q12 (Pt_mk (Pt_tokens Pt) (Pt_characterCount Pt) (Pt_tokenCount Pt) (Pt_position Pt) (Pt_total Pt) (Pt_least Pt) (Pt_most Pt) ((Pt_depth Pt) - (1:Int32)) (Pt_blockStarts Pt) (Pt_branchStarts Pt) (Pt_jumps Pt) (Pt_sizesBefore Pt))
def m_Pt_parse_j105 (n : Nat) (x1 : Int32) (x2 : Int32) (x3 : Int32) (x4 : Int32) (y0 : Int32) (Pg : SPg) (Pt : SPt) : Option (Nat × Int32 × SPg × SPt) :=
  if x2 = (-41:Int32) then
    if (Pt_depth Pt) ≤ 0 then
      m_Pt_parse_j128 n x1 y0 (0:Int32) Pg Pt
    else
      m_Pt_parse_j128 n x1 y0 (1:Int32) Pg Pt
  else
    if x2 = (-40:Int32) then
      o_bd (m_Pt_openGroup Pg Pt) fun q11 =>
      m_Pt_parse_j226 n x1 x3 x4 y0 q11.1 Pg q11.2
    else
      if x2 = (-124:Int32) then
        o_bd (m_Pt_nextBranch Pg Pt) fun q10 =>
        m_Pt_parse_j226 n x1 x3 x4 y0 (1:Int32) q10.1 q10.2
      else
        if x2 = (-91:Int32) then
          o_bd (m_Pt_readSet n Pg Pt) fun q9 =>
          m_Pt_parse_j221 n x1 x3 x4 y0 x2 q9.1 q9.2.1 q9.2.2
        else
          m_Pt_parse_j221 n x1 x3 x4 y0 x2 (0:Int32) Pg Pt
def m_Pt_parse_b28 (n : Nat) (z : Int32 × SPg × SPt) : Option (Nat × Int32 × SPg × SPt) :=
  if (4000:Int32) ≤ z.1 then
    some (2, z.1, z.2.1, z.2.2)
  else
    if (Pt_tokenCount z.2.2) ≤ (Pt_position z.2.2) then
      some (2, z.1, z.2.1, z.2.2)
    else
      o_bd (m_Pt_peek (0:Int32) z.2.2) fun q3 =>
      o_nm (Pg_length z.2.1) fun x3_69 =>
      o_nm (Pt_total z.2.2) fun x4_74 =>
      if q3 = (-94:Int32) then
        m_Pt_parse_j105 n z.1 q3 x3_69 x4_74 (0:Int32) z.2.1 (Pt_mk (Pt_tokens z.2.2) (Pt_characterCount z.2.2) (Pt_tokenCount z.2.2) ((Pt_position z.2.2) + (1:Int32)) (Pt_total z.2.2) (Pt_least z.2.2) (Pt_most z.2.2) (Pt_depth z.2.2) (Pt_blockStarts z.2.2) (Pt_branchStarts z.2.2) (Pt_jumps z.2.2) (Pt_sizesBefore z.2.2))
      else
        if q3 = (-36:Int32) then
          m_Pt_parse_j105 n z.1 q3 x3_69 x4_74 (0:Int32) z.2.1 (Pt_mk (Pt_tokens z.2.2) (Pt_characterCount z.2.2) (Pt_tokenCount z.2.2) ((Pt_position z.2.2) + (1:Int32)) (Pt_total z.2.2) (Pt_least z.2.2) (Pt_most z.2.2) (Pt_depth z.2.2) (Pt_blockStarts z.2.2) (Pt_branchStarts z.2.2) (Pt_jumps z.2.2) (Pt_sizesBefore z.2.2))
        else
          if q3 = (-124:Int32) then
            m_Pt_parse_j105 n z.1 q3 x3_69 x4_74 (0:Int32) z.2.1 (Pt_mk (Pt_tokens z.2.2) (Pt_characterCount z.2.2) (Pt_tokenCount z.2.2) ((Pt_position z.2.2) + (1:Int32)) (Pt_total z.2.2) (Pt_least z.2.2) (Pt_most z.2.2) (Pt_depth z.2.2) (Pt_blockStarts z.2.2) (Pt_branchStarts z.2.2) (Pt_jumps z.2.2) (Pt_sizesBefore z.2.2))
          else
            if q3 = (-40:Int32) then
              m_Pt_parse_j105 n z.1 q3 x3_69 x4_74 (0:Int32) z.2.1 (Pt_mk (Pt_tokens z.2.2) (Pt_characterCount z.2.2) (Pt_tokenCount z.2.2) ((Pt_position z.2.2) + (1:Int32)) (Pt_total z.2.2) (Pt_least z.2.2) (Pt_most z.2.2) (Pt_depth z.2.2) (Pt_blockStarts z.2.2) (Pt_branchStarts z.2.2) (Pt_jumps z.2.2) (Pt_sizesBefore z.2.2))
            else
              m_Pt_parse_j105 n z.1 q3 x3_69 x4_74 (1:Int32) z.2.1 (Pt_mk (Pt_tokens z.2.2) (Pt_characterCount z.2.2) (Pt_tokenCount z.2.2) ((Pt_position z.2.2) + (1:Int32)) (Pt_total z.2.2) (Pt_least z.2.2) (Pt_most z.2.2) (Pt_depth z.2.2) (Pt_blockStarts z.2.2) (Pt_branchStarts z.2.2) (Pt_jumps z.2.2) (Pt_sizesBefore z.2.2))
def m_Pt_parse_j355 (n : Nat) (Pg : SPg) (Pt : SPt) : Option (Int32 × SPg × SPt) :=
  o_bd (m_Pt_endBlock n Pg Pt) fun q14 =>
  o_bd (m_Pg_emit (8:Int32) (0:Int32) q14) fun q15 =>
  if (Pt_depth Pt) = 0 then
    some ((1:Int32), q15, Pt)
  else
    some ((0:Int32), q15, Pt)
def m_Pt_parse (n : Nat) (Pg : SPg) (Pt : SPt) : Option (Int32 × SPg × SPt) :=
  o_bd (m_Pg_clear Pg) fun q1 =>
  o_bd (m_Pt_beginBlock q1 (Pt_mk (Pt_tokens Pt) (Pt_characterCount Pt) (Pt_tokenCount Pt) (0:Int32) (0:Int32) (Pt_least Pt) (Pt_most Pt) (0:Int32) (Pt_blockStarts Pt) (Pt_branchStarts Pt) (Pt_jumps Pt) (Pt_sizesBefore Pt))) fun q2 =>
  o_bd (o_lp n (m_Pt_parse_b28 n) ((0:Int32), q1, q2)) fun q13 =>
  if q13.1 = 1 then
    some ((0:Int32), q13.2.2.1, q13.2.2.2)
  else
  m_Pt_parse_j355 n q13.2.2.1 q13.2.2.2
def m_Ck_inspectPatterns_j56 (n : Nat) (x1 : Int32) (x2 : Int32) (x3 : Int32) (T0 : STx) (Pg : SPg) (Pt : SPt) (Ck : SCk) : Option (Nat × Int32 × Int32 × SPg × SPt × SCk) :=
  o_bd (m_Tx_nextChild x2 T0) fun q5 =>
  o_nm (x3 + (1:Int32)) fun x3_65 =>
  some (0, q5, x3_65, Pg, Pt, Ck)
def m_Ck_inspectPatterns_j50 (n : Nat) (x1 : Int32) (x2 : Int32) (x3 : Int32) (T0 : STx) (Pg : SPg) (Pt : SPt) (Ck : SCk) : Option (Nat × Int32 × Int32 × SPg × SPt × SCk) :=
  o_bd (m_Ck_report (4:Int32) x2 Ck) fun q4 =>
  m_Ck_inspectPatterns_j56 n x1 x2 x3 T0 Pg Pt q4
def m_Ck_inspectPatterns_b11 (n : Nat) (x1 : Int32) (T0 : STx) (z : Int32 × Int32 × SPg × SPt × SCk) : Option (Nat × Int32 × Int32 × SPg × SPt × SCk) :=
  o_bd (m_Tx_size x1 T0) fun q2 =>
  if q2 ≤ z.2.1 then
    some (1, z.1, z.2.1, z.2.2.1, z.2.2.2.1, z.2.2.2.2)
  else
    o_bd (m_Pt_tokenise n (z.1 - (1:Int32)) T0 z.2.2.2.1) fun q3 =>
    if q3.1 = 0 then
      m_Ck_inspectPatterns_j50 n x1 z.1 z.2.1 T0 z.2.2.1 q3.2 z.2.2.2.2
    else
      o_bd (m_Pt_parse n z.2.2.1 q3.2) fun q6 =>
      if q6.1 = 0 then
        m_Ck_inspectPatterns_j50 n x1 z.1 z.2.1 T0 q6.2.1 q6.2.2 z.2.2.2.2
      else
        m_Ck_inspectPatterns_j56 n x1 z.1 z.2.1 T0 q6.2.1 q6.2.2 z.2.2.2.2
def m_Ck_inspectPatterns (n : Nat) (x1 : Int32) (T0 : STx) (Pg : SPg) (Pt : SPt) (Ck : SCk) : Option (SPg × SPt × SCk) :=
  o_bd (m_Tx_firstChild x1 T0) fun q1 =>
  o_bd (o_lp n (m_Ck_inspectPatterns_b11 n x1 T0) (q1, (0:Int32), Pg, Pt, Ck)) fun q7 =>
  some (q7.2.2.2.1, q7.2.2.2.2.1, q7.2.2.2.2.2)
def m_Tx_sign (x1 : Int32) (a0 : STx) : Option (Int32) :=
  if x1 < 0 then
    some (0:Int32)
  else
    if (Tx_total a0) ≤ x1 then
      some (0:Int32)
    else
      o_gd (o_in x1 1000) <|
      if ((Tx_sizes a0) x1.toNatClampNeg) = 0 then
        some (0:Int32)
      else
        o_gd (o_in x1 1000) <|
        if ((Tx_negatives a0) x1.toNatClampNeg) = 0 then
          some (1:Int32)
        else
          some (-1:Int32)
def m_Tx_exponent (x1 : Int32) (a0 : STx) : Option (Int32) :=
  if x1 < 0 then
    some (0:Int32)
  else
    if (Tx_total a0) ≤ x1 then
      some (0:Int32)
    else
      o_gd (o_in x1 1000) <|
      some ((Tx_exponents a0) x1.toNatClampNeg)
def m_Tx_wholeNumber_b47 (n : Nat) (x1 : Int32) (a0 : STx) (z : Int32 × Int32) : Option (Nat × Int32 × Int32) :=
  o_bd (m_Tx_size x1 a0) fun q6 =>
  o_bd (m_Tx_exponent x1 a0) fun q7 =>
  if (q6 + q7) ≤ z.2 then
    some (1, z.1, z.2)
  else
    o_bd (m_Tx_cell x1 z.2 a0) fun q8 =>
    o_nm ((z.1 * (10:Int32)) + q8) fun x2_73 =>
    o_nm (z.2 + (1:Int32)) fun x3_74 =>
    some (0, x2_73, x3_74)
def m_Tx_wholeNumber (n : Nat) (x1 : Int32) (a0 : STx) : Option (Int32) :=
  o_bd (m_Tx_kind x1 a0) fun q1 =>
  if q1 = (3:Int32) then
    o_bd (m_Tx_sign x1 a0) fun q2 =>
    if q2 < 0 then
      some (-1:Int32)
    else
      o_bd (m_Tx_exponent x1 a0) fun q3 =>
      if q3 < 0 then
        some (-1:Int32)
      else
        o_bd (m_Tx_size x1 a0) fun q4 =>
        o_bd (m_Tx_exponent x1 a0) fun q5 =>
        if (q4 + q5) ≤ (7:Int32) then
          o_bd (o_lp n (m_Tx_wholeNumber_b47 n x1 a0) ((0:Int32), (0:Int32))) fun q9 =>
          if q9.2.1 ≤ (1000000:Int32) then
            some q9.2.1
          else
            some (-1:Int32)
        else
          some (-1:Int32)
  else
    some (-1:Int32)
def m_SJ_isLetter_j24 (x0 : Int32) : Option (Int32) :=
  if x0 = (95:Int32) then
    some (1:Int32)
  else
    some (0:Int32)
def m_SJ_isLetter_j12 (x0 : Int32) : Option (Int32) :=
  if x0 < (65:Int32) then
    m_SJ_isLetter_j24 x0
  else
    if x0 ≤ (90:Int32) then
      some (1:Int32)
    else
      m_SJ_isLetter_j24 x0
def m_SJ_isLetter (x0 : Int32) : Option (Int32) :=
  if x0 < (97:Int32) then
    m_SJ_isLetter_j12 x0
  else
    if x0 ≤ (122:Int32) then
      some (1:Int32)
    else
      m_SJ_isLetter_j12 x0
def m_Ck_isAnchor_j52 (n : Nat) (x1 : Int32) (x2 : Int32) (x3 : Int32) (y0 : Int32) (T0 : STx) : Option (Nat × Int32) :=
  o_bd (m_SJ_isLetter x3) fun q3 =>
  if q3 = 0 then
    if y0 = 0 then
      some (1, x2)
    else
      o_nm (x2 + (1:Int32)) fun x2_68 =>
      some (0, x2_68)
  else
    o_nm (x2 + (1:Int32)) fun x2_68 =>
    some (0, x2_68)
def m_Ck_isAnchor_b2 (n : Nat) (x1 : Int32) (T0 : STx) (z : Int32) : Option (Nat × Int32) :=
  o_bd (m_Tx_size x1 T0) fun q1 =>
  if q1 ≤ z then
    some (2, z)
  else
    o_bd (m_Tx_cell x1 z T0) fun q2 =>
    if z ≤ 0 then
      m_Ck_isAnchor_j52 n x1 z q2 (0:Int32) T0
    else
      o_bd (m_SJ_isDigit q2) fun q4 =>
      if q4 = 0 then
        if q2 = (45:Int32) then
          m_Ck_isAnchor_j52 n x1 z q2 (1:Int32) T0
        else
          if q2 = (46:Int32) then
            m_Ck_isAnchor_j52 n x1 z q2 (1:Int32) T0
          else
            m_Ck_isAnchor_j52 n x1 z q2 (0:Int32) T0
      else
        m_Ck_isAnchor_j52 n x1 z q2 (1:Int32) T0
def m_Ck_isAnchor (n : Nat) (x1 : Int32) (T0 : STx) : Option (Int32) :=
  o_bd (o_lp n (m_Ck_isAnchor_b2 n x1 T0) ((0:Int32))) fun q5 =>
  if q5.1 = 1 then
    some (0:Int32)
  else
  o_bd (m_Tx_size x1 T0) fun q6 =>
  if q6 ≤ 0 then
    some (0:Int32)
  else
    some (1:Int32)
def m_Ck_isType (n : Nat) (x1 : Int32) (T0 : STx) : Option (Int32) :=
  o_bd (m_Tx_kind x1 T0) fun q1 =>
  if q1 = (4:Int32) then
    o_bd (m_Tx_spells n x1 2 T0) fun q2 =>
    if q2 = 0 then
      o_bd (m_Tx_spells n x1 11 T0) fun q3 =>
      if q3 = 0 then
        o_bd (m_Tx_spells n x1 12 T0) fun q4 =>
        if q4 = 0 then
          o_bd (m_Tx_spells n x1 13 T0) fun q5 =>
          if q5 = 0 then
            o_bd (m_Tx_spells n x1 14 T0) fun q6 =>
            if q6 = 0 then
              o_bd (m_Tx_spells n x1 15 T0) fun q7 =>
              if q7 = 0 then
                o_bd (m_Tx_spells n x1 16 T0) fun q8 =>
                if q8 = 0 then
                  some (0:Int32)
                else
                  some (1:Int32)
              else
                some (1:Int32)
            else
              some (1:Int32)
          else
            some (1:Int32)
        else
          some (1:Int32)
      else
        some (1:Int32)
    else
      some (1:Int32)
  else
    some (0:Int32)
def m_Tx_slot (x1 : Int32) (a0 : STx) : Option (Int32) :=
  if x1 < 0 then
    some (0:Int32)
  else
    if (Tx_total a0) ≤ x1 then
      some (0:Int32)
    else
      o_gd (o_in x1 1000) <|
      some ((Tx_slots a0) x1.toNatClampNeg)
def m_Ck_isNew_j55 (n : Nat) (x2 : Int32) (x3 : Int32) (x4 : Int32) (T0 : STx) : Option (Nat × Int32 × Int32) :=
  o_bd (m_Tx_nextChild x3 T0) fun q4 =>
  o_nm (x4 + (1:Int32)) fun x4_64 =>
  some (0, q4, x4_64)
def m_Ck_isNew_b12 (n : Nat) (x2 : Int32) (T0 : STx) (z : Int32 × Int32) : Option (Nat × Int32 × Int32) :=
  o_bd (m_Tx_slot x2 T0) fun q2 =>
  if q2 ≤ z.2 then
    some (2, z.1, z.2)
  else
    o_bd (m_Tx_kind z.1 T0) fun q3 =>
    if q3 = (4:Int32) then
      o_bd (m_Tx_sameString n z.1 x2 T0 T0) fun q5 =>
      if q5 = 0 then
        m_Ck_isNew_j55 n x2 z.1 z.2 T0
      else
        some (1, z.1, z.2)
    else
      m_Ck_isNew_j55 n x2 z.1 z.2 T0
def m_Ck_isNew (n : Nat) (x1 : Int32) (x2 : Int32) (T0 : STx) : Option (Int32) :=
  o_bd (m_Tx_firstChild x1 T0) fun q1 =>
  o_bd (o_lp n (m_Ck_isNew_b12 n x2 T0) (q1, (0:Int32))) fun q6 =>
  if q6.1 = 1 then
    some (0:Int32)
  else
  some (1:Int32)
def m_Ck_inspectTypes_j85 (n : Nat) (x1 : Int32) (x3 : Int32) (x4 : Int32) (y1 : Int32) (T0 : STx) (Ck : SCk) : Option (Nat × Int32 × Int32 × SCk) :=
  o_bd (m_Ck_require y1 x3 Ck) fun q6 =>
  o_bd (m_Tx_nextChild x3 T0) fun q7 =>
  o_nm (x4 + (1:Int32)) fun x4_98 =>
  some (0, q7, x4_98, q6)
def m_Ck_inspectTypes_b49 (n : Nat) (x1 : Int32) (T0 : STx) (z : Int32 × Int32 × SCk) : Option (Nat × Int32 × Int32 × SCk) :=
  o_bd (m_Tx_size x1 T0) fun q4 =>
  if q4 ≤ z.2.1 then
    some (1, z.1, z.2.1, z.2.2)
  else
    o_bd (m_Ck_isType n z.1 T0) fun q5 =>
    if q5 = 0 then
      m_Ck_inspectTypes_j85 n x1 z.1 z.2.1 (0:Int32) T0 z.2.2
    else
      o_bd (m_Ck_isNew n x1 z.1 T0) fun q8 =>
      if q8 = 0 then
        m_Ck_inspectTypes_j85 n x1 z.1 z.2.1 (0:Int32) T0 z.2.2
      else
        m_Ck_inspectTypes_j85 n x1 z.1 z.2.1 (1:Int32) T0 z.2.2
def m_Ck_inspectTypes_j33 (n : Nat) (x1 : Int32) (y1 : Int32) (T0 : STx) (Ck : SCk) : Option (SCk) :=
  o_bd (m_Ck_require y1 x1 Ck) fun q2 =>
  o_bd (m_Tx_firstChild x1 T0) fun q3 =>
  o_bd (o_lp n (m_Ck_inspectTypes_b49 n x1 T0) (q3, (0:Int32), q2)) fun q9 =>
  some q9.2.2.2
def m_Ck_inspectTypes (n : Nat) (x1 : Int32) (x2 : Int32) (T0 : STx) (Ck : SCk) : Option (SCk) :=
  if x2 = (5:Int32) then
    o_bd (m_Tx_size x1 T0) fun q1 =>
    if q1 ≤ 0 then
      m_Ck_inspectTypes_j33 n x1 (0:Int32) T0 Ck
    else
      m_Ck_inspectTypes_j33 n x1 (1:Int32) T0 Ck
  else
    o_bd (m_Ck_isType n x1 T0) fun q10 =>
    o_bd (m_Ck_require q10 x1 Ck) fun q11 =>
    some q11
def m_Ck_inspectNames_j89 (n : Nat) (x1 : Int32) (x3 : Int32) (x4 : Int32) (y1 : Int32) (T0 : STx) (Ck : SCk) : Option (Nat × Int32 × Int32 × SCk) :=
  o_bd (m_Ck_require y1 x3 Ck) fun q5 =>
  o_bd (m_Tx_nextChild x3 T0) fun q6 =>
  o_nm (x4 + (1:Int32)) fun x4_102 =>
  some (0, q6, x4_102, q5)
def m_Ck_inspectNames_b44 (n : Nat) (x1 : Int32) (T0 : STx) (z : Int32 × Int32 × SCk) : Option (Nat × Int32 × Int32 × SCk) :=
  o_bd (m_Tx_size x1 T0) fun q3 =>
  if q3 ≤ z.2.1 then
    some (1, z.1, z.2.1, z.2.2)
  else
    if z.1 = (-1:Int32) then
      some (1, z.1, z.2.1, z.2.2)
    else
      o_bd (m_Tx_kind z.1 T0) fun q4 =>
      if q4 = (4:Int32) then
        o_bd (m_Ck_isNew n x1 z.1 T0) fun q7 =>
        if q7 = 0 then
          m_Ck_inspectNames_j89 n x1 z.1 z.2.1 (0:Int32) T0 z.2.2
        else
          m_Ck_inspectNames_j89 n x1 z.1 z.2.1 (1:Int32) T0 z.2.2
      else
        m_Ck_inspectNames_j89 n x1 z.1 z.2.1 (0:Int32) T0 z.2.2
def m_Ck_inspectNames_j17 (n : Nat) (x1 : Int32) (y0 : Int32) (T0 : STx) (Ck : SCk) : Option (SCk) :=
  o_bd (m_Ck_require y0 x1 Ck) fun q2 =>
  if y0 = 0 then
    o_bd (o_lp n (m_Ck_inspectNames_b44 n x1 T0) ((-1:Int32), (0:Int32), q2)) fun q8 =>
    some q8.2.2.2
  else
    o_bd (m_Tx_firstChild x1 T0) fun q9 =>
    o_bd (o_lp n (m_Ck_inspectNames_b44 n x1 T0) (q9, (0:Int32), q2)) fun q10 =>
    some q10.2.2.2
def m_Ck_inspectNames (n : Nat) (x1 : Int32) (T0 : STx) (Ck : SCk) : Option (SCk) :=
  o_bd (m_Tx_kind x1 T0) fun q1 =>
  if q1 = (5:Int32) then
    m_Ck_inspectNames_j17 n x1 (1:Int32) T0 Ck
  else
    m_Ck_inspectNames_j17 n x1 (0:Int32) T0 Ck
def m_Ck_inspectPlain_j64 (n : Nat) (x2 : Int32) (y1 : Int32) (T0 : STx) (Ck : SCk) : Option (SCk) :=
  o_bd (m_Ck_require y1 x2 Ck) fun q2 =>
  some q2
def m_Ck_inspectPlain_j87 (n : Nat) (x2 : Int32) (y1 : Int32) (T0 : STx) (Ck : SCk) : Option (SCk) :=
  o_bd (m_Ck_require y1 x2 Ck) fun q3 =>
  some q3
def m_Ck_inspectPlain_b141 (n : Nat) (x2 : Int32) (T0 : STx) (z : Int32 × Int32 × SCk) : Option (Nat × Int32 × Int32 × SCk) :=
  o_bd (m_Tx_size x2 T0) fun q6 =>
  if q6 ≤ z.2.1 then
    some (1, z.1, z.2.1, z.2.2)
  else
    if z.1 = (-1:Int32) then
      some (1, z.1, z.2.1, z.2.2)
    else
      o_bd (m_Ck_inspectNames n z.1 T0 z.2.2) fun q7 =>
      o_bd (m_Tx_nextChild z.1 T0) fun q8 =>
      o_nm (z.2.1 + (1:Int32)) fun x5_177 =>
      some (0, q8, x5_177, q7)
def m_Ck_inspectPlain_j114 (n : Nat) (x2 : Int32) (x3 : Int32) (y1 : Int32) (T0 : STx) (Ck : SCk) : Option (SCk) :=
  o_bd (m_Ck_require y1 x2 Ck) fun q5 =>
  if x3 = (6:Int32) then
    o_bd (m_Tx_firstChild x2 T0) fun q10 =>
    o_bd (o_lp n (m_Ck_inspectPlain_b141 n x2 T0) (q10, (0:Int32), q5)) fun q11 =>
    some q11.2.2.2
  else
    o_bd (o_lp n (m_Ck_inspectPlain_b141 n x2 T0) ((-1:Int32), (0:Int32), q5)) fun q9 =>
    some q9.2.2.2
def m_Ck_inspectPlain (n : Nat) (x1 : Nat) (x2 : Int32) (x3 : Int32) (T0 : STx) (Ck : SCk) : Option (SCk) :=
  o_nm (kw_form x1) fun w4 =>
  if w4 = (10:Int32) then
    o_bd (m_Ck_inspectTypes n x2 x3 T0 Ck) fun q1 =>
    some q1
  else
  if w4 = (11:Int32) then
    if x3 = (5:Int32) then
      m_Ck_inspectPlain_j64 n x2 (1:Int32) T0 Ck
    else
      m_Ck_inspectPlain_j64 n x2 (0:Int32) T0 Ck
  else
  if w4 = (12:Int32) then
    some Ck
  else
  if w4 = (13:Int32) then
    if x3 = (2:Int32) then
      m_Ck_inspectPlain_j87 n x2 (1:Int32) T0 Ck
    else
      if x3 = (1:Int32) then
        m_Ck_inspectPlain_j87 n x2 (1:Int32) T0 Ck
      else
        m_Ck_inspectPlain_j87 n x2 (0:Int32) T0 Ck
  else
  if w4 = (14:Int32) then
    o_bd (m_Ck_inspectNames n x2 T0 Ck) fun q4 =>
    some q4
  else
  if w4 = (15:Int32) then
    if x3 = (6:Int32) then
      m_Ck_inspectPlain_j114 n x2 x3 (1:Int32) T0 Ck
    else
      m_Ck_inspectPlain_j114 n x2 x3 (0:Int32) T0 Ck
  else
  some Ck
def m_Ck_inspectKeyword_j138 (n : Nat) (y1 : Int32) (y2 : Int32) (T0 : STx) (Pg : SPg) (Pt : SPt) (Mk : SMk) (Ck : SCk) : Option (SPg × SPt × SMk × SCk) :=
  o_bd (m_Ck_takeSchemas n y1 y2 T0 Mk Ck) fun q4 =>
  some (Pg, Pt, q4.1, q4.2)
def m_Ck_inspectKeyword_j122 (n : Nat) (x2 : Int32) (x3 : Int32) (y1 : Int32) (T0 : STx) (Pg : SPg) (Pt : SPt) (Mk : SMk) (Ck : SCk) : Option (SPg × SPt × SMk × SCk) :=
  o_bd (m_Ck_require y1 x2 Ck) fun q3 =>
  if x3 = (5:Int32) then
    m_Ck_inspectKeyword_j138 n x2 (1:Int32) T0 Pg Pt Mk q3
  else
    m_Ck_inspectKeyword_j138 n x2 (0:Int32) T0 Pg Pt Mk q3
def m_Ck_inspectKeyword_j173 (n : Nat) (x1 : Nat) (x2 : Int32) (x3 : Int32) (y1 : Int32) (y2 : Int32) (T0 : STx) (Pg : SPg) (Pt : SPt) (Mk : SMk) (Ck : SCk) : Option (SPg × SPt × SMk × SCk) :=
  o_bd (m_Ck_takeSchemas n y1 y2 T0 Mk Ck) fun q7 =>
  if x1 = 17 then
    if x3 = (6:Int32) then
      o_bd (m_Ck_inspectPatterns n x2 T0 Pg Pt q7.2) fun q8 =>
      some (q8.1, q8.2.1, q7.1, q8.2.2)
    else
      some (Pg, Pt, q7.1, q7.2)
  else
    some (Pg, Pt, q7.1, q7.2)
def m_Ck_inspectKeyword_j156 (n : Nat) (x1 : Nat) (x2 : Int32) (x3 : Int32) (y1 : Int32) (T0 : STx) (Pg : SPg) (Pt : SPt) (Mk : SMk) (Ck : SCk) : Option (SPg × SPt × SMk × SCk) :=
  o_bd (m_Ck_require y1 x2 Ck) fun q6 =>
  if x3 = (6:Int32) then
    m_Ck_inspectKeyword_j173 n x1 x2 x3 x2 (1:Int32) T0 Pg Pt Mk q6
  else
    m_Ck_inspectKeyword_j173 n x1 x2 x3 x2 (0:Int32) T0 Pg Pt Mk q6
def m_Ck_inspectKeyword_j208 (n : Nat) (x2 : Int32) (y1 : Int32) (T0 : STx) (Pg : SPg) (Pt : SPt) (Mk : SMk) (Ck : SCk) : Option (SPg × SPt × SMk × SCk) :=
  o_bd (m_Ck_require y1 x2 Ck) fun q9 =>
  some (Pg, Pt, Mk, q9)
def m_Ck_inspectKeyword_j237 (n : Nat) (x2 : Int32) (y1 : Int32) (T0 : STx) (Pg : SPg) (Pt : SPt) (Mk : SMk) (Ck : SCk) : Option (SPg × SPt × SMk × SCk) :=
  o_bd (m_Ck_require y1 x2 Ck) fun q10 =>
  some (Pg, Pt, Mk, q10)
def m_Ck_inspectKeyword_j262 (n : Nat) (x2 : Int32) (y1 : Int32) (T0 : STx) (Pg : SPg) (Pt : SPt) (Mk : SMk) (Ck : SCk) : Option (SPg × SPt × SMk × SCk) :=
  o_bd (m_Ck_require y1 x2 Ck) fun q13 =>
  some (Pg, Pt, Mk, q13)
def m_Ck_inspectKeyword_j314 (n : Nat) (x2 : Int32) (T0 : STx) (Pg : SPg) (Pt : SPt) (Mk : SMk) (Ck : SCk) : Option (SPg × SPt × SMk × SCk) :=
  o_bd (m_Ck_report (4:Int32) x2 Ck) fun q16 =>
  some (Pg, Pt, Mk, q16)
def m_Ck_inspectKeyword_j280 (n : Nat) (x2 : Int32) (x3 : Int32) (y1 : Int32) (T0 : STx) (Pg : SPg) (Pt : SPt) (Mk : SMk) (Ck : SCk) : Option (SPg × SPt × SMk × SCk) :=
  o_bd (m_Ck_require y1 x2 Ck) fun q14 =>
  if x3 = (4:Int32) then
    o_bd (m_Pt_tokenise n x2 T0 Pt) fun q15 =>
    if q15.1 = 0 then
      m_Ck_inspectKeyword_j314 n x2 T0 Pg q15.2 Mk q14
    else
      o_bd (m_Pt_parse n Pg q15.2) fun q17 =>
      if q17.1 = 0 then
        m_Ck_inspectKeyword_j314 n x2 T0 q17.2.1 q17.2.2 Mk q14
      else
        some (q17.2.1, q17.2.2, Mk, q14)
  else
    some (Pg, Pt, Mk, q14)
def m_Ck_inspectKeyword_j334 (n : Nat) (x2 : Int32) (y1 : Int32) (T0 : STx) (Pg : SPg) (Pt : SPt) (Mk : SMk) (Ck : SCk) : Option (SPg × SPt × SMk × SCk) :=
  o_bd (m_Ck_require y1 x2 Ck) fun q18 =>
  some (Pg, Pt, Mk, q18)
def m_Ck_inspectKeyword_j360 (n : Nat) (x2 : Int32) (y1 : Int32) (T0 : STx) (Pg : SPg) (Pt : SPt) (Mk : SMk) (Ck : SCk) : Option (SPg × SPt × SMk × SCk) :=
  o_bd (m_Ck_require y1 x2 Ck) fun q19 =>
  some (Pg, Pt, Mk, q19)
def m_Ck_inspectKeyword (n : Nat) (x1 : Nat) (x2 : Int32) (T0 : STx) (Pg : SPg) (Pt : SPt) (Mk : SMk) (Ck : SCk) : Option (SPg × SPt × SMk × SCk) :=
  o_bd (m_Tx_kind x2 T0) fun q1 =>
  o_nm (kw_form x1) fun w13 =>
  if w13 = (1:Int32) then
    o_bd (m_Ck_takeSchema x2 T0 Mk Ck) fun q2 =>
    some (Pg, Pt, q2.1, q2.2)
  else
  if w13 = (2:Int32) then
    if q1 = (5:Int32) then
      o_bd (m_Tx_size x2 T0) fun q5 =>
      if q5 ≤ 0 then
        m_Ck_inspectKeyword_j122 n x2 q1 (0:Int32) T0 Pg Pt Mk Ck
      else
        m_Ck_inspectKeyword_j122 n x2 q1 (1:Int32) T0 Pg Pt Mk Ck
    else
      m_Ck_inspectKeyword_j122 n x2 q1 (0:Int32) T0 Pg Pt Mk Ck
  else
  if w13 = (3:Int32) then
    if q1 = (6:Int32) then
      m_Ck_inspectKeyword_j156 n x1 x2 q1 (1:Int32) T0 Pg Pt Mk Ck
    else
      m_Ck_inspectKeyword_j156 n x1 x2 q1 (0:Int32) T0 Pg Pt Mk Ck
  else
  if w13 = (4:Int32) then
    if q1 = (3:Int32) then
      m_Ck_inspectKeyword_j208 n x2 (1:Int32) T0 Pg Pt Mk Ck
    else
      m_Ck_inspectKeyword_j208 n x2 (0:Int32) T0 Pg Pt Mk Ck
  else
  if w13 = (5:Int32) then
    if q1 = (3:Int32) then
      o_bd (m_Tx_sign x2 T0) fun q11 =>
      if q11 ≤ 0 then
        m_Ck_inspectKeyword_j237 n x2 (0:Int32) T0 Pg Pt Mk Ck
      else
        m_Ck_inspectKeyword_j237 n x2 (1:Int32) T0 Pg Pt Mk Ck
    else
      m_Ck_inspectKeyword_j237 n x2 (0:Int32) T0 Pg Pt Mk Ck
  else
  if w13 = (6:Int32) then
    o_bd (m_Tx_wholeNumber n x2 T0) fun q12 =>
    if q12 = (-1:Int32) then
      m_Ck_inspectKeyword_j262 n x2 (0:Int32) T0 Pg Pt Mk Ck
    else
      m_Ck_inspectKeyword_j262 n x2 (1:Int32) T0 Pg Pt Mk Ck
  else
  if w13 = (7:Int32) then
    if q1 = (4:Int32) then
      m_Ck_inspectKeyword_j280 n x2 q1 (1:Int32) T0 Pg Pt Mk Ck
    else
      m_Ck_inspectKeyword_j280 n x2 q1 (0:Int32) T0 Pg Pt Mk Ck
  else
  if w13 = (8:Int32) then
    if q1 = (4:Int32) then
      m_Ck_inspectKeyword_j334 n x2 (1:Int32) T0 Pg Pt Mk Ck
    else
      m_Ck_inspectKeyword_j334 n x2 (0:Int32) T0 Pg Pt Mk Ck
  else
  if w13 = (9:Int32) then
    if q1 = (4:Int32) then
      o_bd (m_Ck_isAnchor n x2 T0) fun q20 =>
      if q20 = 0 then
        m_Ck_inspectKeyword_j360 n x2 (0:Int32) T0 Pg Pt Mk Ck
      else
        m_Ck_inspectKeyword_j360 n x2 (1:Int32) T0 Pg Pt Mk Ck
    else
      m_Ck_inspectKeyword_j360 n x2 (0:Int32) T0 Pg Pt Mk Ck
  else
  if w13 = (10:Int32) then
    o_bd (m_Ck_inspectPlain n x1 x2 q1 T0 Ck) fun q21 =>
    some (Pg, Pt, Mk, q21)
  else
  if w13 = (11:Int32) then
    o_bd (m_Ck_inspectPlain n x1 x2 q1 T0 Ck) fun q22 =>
    some (Pg, Pt, Mk, q22)
  else
  if w13 = (12:Int32) then
    o_bd (m_Ck_inspectPlain n x1 x2 q1 T0 Ck) fun q23 =>
    some (Pg, Pt, Mk, q23)
  else
  if w13 = (13:Int32) then
    o_bd (m_Ck_inspectPlain n x1 x2 q1 T0 Ck) fun q24 =>
    some (Pg, Pt, Mk, q24)
  else
  if w13 = (14:Int32) then
    o_bd (m_Ck_inspectPlain n x1 x2 q1 T0 Ck) fun q25 =>
    some (Pg, Pt, Mk, q25)
  else
  if w13 = (15:Int32) then
    o_bd (m_Ck_inspectPlain n x1 x2 q1 T0 Ck) fun q26 =>
    some (Pg, Pt, Mk, q26)
  else
  if w13 = (16:Int32) then
    o_bd (m_Ck_report (2:Int32) x2 Ck) fun q27 =>
    some (Pg, Pt, Mk, q27)
  else
  o_bd (m_Ck_inspectPlain n x1 x2 q1 T0 Ck) fun q28 =>
  some (Pg, Pt, Mk, q28)
def m_Ck_inspectSchema_b11 (n : Nat) (x1 : Int32) (T0 : STx) (z : Int32 × Int32 × SPg × SPt × SMk × SCk) : Option (Nat × Int32 × Int32 × SPg × SPt × SMk × SCk) :=
  o_bd (m_Tx_size x1 T0) fun q2 =>
  if q2 ≤ z.2.1 then
    some (1, z.1, z.2.1, z.2.2.1, z.2.2.2.1, z.2.2.2.2.1, z.2.2.2.2.2)
  else
    o_bd (m_Mk_markKeyword n z.1 T0 z.2.2.2.2.1) fun q3 =>
    o_gd (o_kb q3.1) <|
    o_bd (m_Ck_inspectKeyword n q3.1 z.1 T0 z.2.2.1 z.2.2.2.1 q3.2 z.2.2.2.2.2) fun q4 =>
    o_bd (m_Tx_nextChild z.1 T0) fun q5 =>
    o_nm (z.2.1 + (1:Int32)) fun x3_45 =>
    some (0, q5, x3_45, q4.1, q4.2.1, q4.2.2.1, q4.2.2.2)
def m_Ck_inspectSchema (n : Nat) (x1 : Int32) (T0 : STx) (Pg : SPg) (Pt : SPt) (Mk : SMk) (Ck : SCk) : Option (SPg × SPt × SMk × SCk) :=
  o_bd (m_Tx_firstChild x1 T0) fun q1 =>
  o_bd (o_lp n (m_Ck_inspectSchema_b11 n x1 T0) (q1, (0:Int32), Pg, Pt, Mk, Ck)) fun q6 =>
  some (q6.2.2.2.1, q6.2.2.2.2.1, q6.2.2.2.2.2.1, q6.2.2.2.2.2.2)
def m_Mk_keyword_j21 (y0 : Int32) (Mk : SMk) : Option (Nat) :=
  o_bd (m_Kw_numbered y0) fun q1 =>
  o_gd (o_kb q1) <|
  some q1
def m_Mk_keyword (x1 : Int32) (Mk : SMk) : Option (Nat) :=
  if x1 < 0 then
    m_Mk_keyword_j21 (0:Int32) Mk
  else
    if (1000:Int32) ≤ x1 then
      m_Mk_keyword_j21 (0:Int32) Mk
    else
      o_gd (o_in x1 1000) <|
      m_Mk_keyword_j21 ((Mk_keywords Mk) x1.toNatClampNeg) Mk
def m_Ck_isAnchorValue (x1 : Int32) (T0 : STx) (Mk : SMk) : Option (Int32) :=
  o_bd (m_Mk_keyword x1 Mk) fun q1 =>
  o_gd (o_kb q1) <|
  if q1 = 34 then
    o_bd (m_Tx_kind x1 T0) fun q2 =>
    if q2 = (4:Int32) then
      some (1:Int32)
    else
      some (0:Int32)
  else
    some (0:Int32)
def m_Ck_hasElderAnchor_b2 (n : Nat) (x1 : Int32) (T0 : STx) (Mk : SMk) (z : Int32) : Option (Nat × Int32) :=
  if x1 ≤ z then
    some (2, z)
  else
    o_bd (m_Ck_isAnchorValue z T0 Mk) fun q1 =>
    if q1 = 0 then
      o_nm (z + (1:Int32)) fun x2_33 =>
      some (0, x2_33)
    else
      o_bd (m_Tx_sameString n z x1 T0 T0) fun q2 =>
      if q2 = 0 then
        o_nm (z + (1:Int32)) fun x2_33 =>
        some (0, x2_33)
      else
        some (1, z)
def m_Ck_hasElderAnchor (n : Nat) (x1 : Int32) (T0 : STx) (Mk : SMk) : Option (Int32) :=
  o_bd (o_lp n (m_Ck_hasElderAnchor_b2 n x1 T0 Mk) ((0:Int32))) fun q3 =>
  if q3.1 = 1 then
    some (1:Int32)
  else
  some (0:Int32)
def m_Ck_compareAnchors_b2 (n : Nat) (T0 : STx) (Mk : SMk) (z : Int32 × SCk) : Option (Nat × Int32 × SCk) :=
  o_bd (m_Tx_total T0) fun q1 =>
  if q1 ≤ z.1 then
    some (1, z.1, z.2)
  else
    o_bd (m_Ck_isAnchorValue z.1 T0 Mk) fun q2 =>
    if q2 = 0 then
      o_nm (z.1 + (1:Int32)) fun x1_35 =>
      some (0, x1_35, z.2)
    else
      o_bd (m_Ck_hasElderAnchor n z.1 T0 Mk) fun q3 =>
      if q3 = 0 then
        o_nm (z.1 + (1:Int32)) fun x1_35 =>
        some (0, x1_35, z.2)
      else
        o_bd (m_Ck_report (3:Int32) z.1 z.2) fun q4 =>
        o_nm (z.1 + (1:Int32)) fun x1_35 =>
        some (0, x1_35, q4)
def m_Ck_compareAnchors (n : Nat) (T0 : STx) (Mk : SMk) (Ck : SCk) : Option (SCk) :=
  o_bd (o_lp n (m_Ck_compareAnchors_b2 n T0 Mk) ((0:Int32), Ck)) fun q5 =>
  some q5.2.2
def m_JA_fill_b5 (n : Nat) (x1 : Int32) (x3 : Int32) (z : Int32 × (Nat → Int32)) : Option (Nat × Int32 × (Nat → Int32)) :=
  if x3 ≤ z.1 then
    some (1, z.1, z.2)
  else
    o_gd (o_in z.1 1000) <|
    o_nm (z.1 + (1:Int32)) fun x2_14 =>
    some (0, x2_14, (upd z.2 z.1.toNatClampNeg x1))
def m_JA_fill (n : Nat) (x1 : Int32) (r0 : (Nat → Int32)) : Option ((Nat → Int32)) :=
  o_bd (o_lp n (m_JA_fill_b5 n x1 (1000:Int32)) ((0:Int32), r0)) fun q1 =>
  some q1.2.2
def m_Lk_octetAt (x1 : Int32) (T0 : STx) (Lk : SLk) : Option (Int32) :=
  o_bd (m_Tx_cell x1 ((Lk_position Lk) + (1:Int32)) T0) fun q1 =>
  o_bd (m_SJ_hexDigit q1) fun q2 =>
  o_bd (m_Tx_cell x1 ((Lk_position Lk) + (2:Int32)) T0) fun q3 =>
  o_bd (m_SJ_hexDigit q3) fun q4 =>
  o_bd (m_Tx_cell x1 (Lk_position Lk) T0) fun q5 =>
  if q5 = (37:Int32) then
    if q2 = (-1:Int32) then
      some (-1:Int32)
    else
      if q4 = (-1:Int32) then
        some (-1:Int32)
      else
        some ((q2 * (16:Int32)) + q4)
  else
    some (-1:Int32)
def m_Lk_decodeOctets_b22 (n : Nat) (x1 : Int32) (x3 : Int32) (T0 : STx) (z : Int32 × Int32 × SLk) : Option (Nat × Int32 × Int32 × SLk) :=
  if x3 ≤ z.2.1 then
    some (2, z.1, z.2.1, z.2.2)
  else
    o_bd (m_Lk_octetAt x1 T0 (Lk_mk (Lk_characters z.2.2) (Lk_length z.2.2) ((Lk_position z.2.2) + (3:Int32)))) fun q3 =>
    o_bd (m_SJ_utf8Follows q3) fun q4 =>
    if q4 = 0 then
      some (1, z.1, z.2.1, (Lk_mk (Lk_characters z.2.2) (Lk_length z.2.2) ((Lk_position z.2.2) + (3:Int32))))
    else
      o_nm ((z.1 <<< ((6:Int32) &&& 31)) ||| (q3 &&& (63:Int32))) fun x4_66 =>
      o_nm (z.2.1 + (1:Int32)) fun x5_68 =>
      some (0, x4_66, x5_68, (Lk_mk (Lk_characters z.2.2) (Lk_length z.2.2) ((Lk_position z.2.2) + (3:Int32))))
def m_Lk_decodeOctets (n : Nat) (x1 : Int32) (x2 : Int32) (T0 : STx) (Lk : SLk) : Option (Int32 × SLk) :=
  o_bd (m_SJ_utf8Tail x2) fun q1 =>
  if q1 = (-1:Int32) then
    some ((-1:Int32), Lk)
  else
    o_bd (m_SJ_utf8Head x2 q1) fun q2 =>
    o_bd (o_lp n (m_Lk_decodeOctets_b22 n x1 q1 T0) (q2, (0:Int32), Lk)) fun q5 =>
    if q5.1 = 1 then
      some ((-1:Int32), q5.2.2.2)
    else
    o_bd (m_SJ_utf8Legal q5.2.1 q1) fun q6 =>
    if q6 = 0 then
      some ((-1:Int32), q5.2.2.2)
    else
      some (q5.2.1, q5.2.2.2)
def m_Lk_decode_j107 (n : Nat) (x1 : Int32) (x2 : Int32) (x3 : Int32) (x5 : Int32) (y1 : Int32) (y2 : Int32) (T0 : STx) (Lk : SLk) : Option (Nat × Int32 × SLk) :=
  o_gd (o_in (Lk_length Lk) 4000) <|
  o_nm (x3 + (1:Int32)) fun x3_132 =>
  some (0, x3_132, (Lk_mk (upd (Lk_characters Lk) (Lk_length Lk).toNatClampNeg x5) ((Lk_length Lk) + (1:Int32)) (y1 + y2)))
def m_Lk_decode_j81 (n : Nat) (x1 : Int32) (x2 : Int32) (x3 : Int32) (x4 : Int32) (y0 : Int32) (T0 : STx) (Lk : SLk) : Option (Nat × Int32 × SLk) :=
  if y0 = (-1:Int32) then
    some (1, x3, Lk)
  else
    if x4 = (-1:Int32) then
      m_Lk_decode_j107 n x1 x2 x3 y0 (Lk_position Lk) (1:Int32) T0 Lk
    else
      m_Lk_decode_j107 n x1 x2 x3 y0 (Lk_position Lk) (3:Int32) T0 Lk
def m_Lk_decode_b21 (n : Nat) (x1 : Int32) (x2 : Int32) (T0 : STx) (z : Int32 × SLk) : Option (Nat × Int32 × SLk) :=
  if x2 ≤ z.1 then
    some (2, z.1, z.2)
  else
    if x2 ≤ (Lk_position z.2) then
      some (2, z.1, z.2)
    else
      if (4000:Int32) ≤ (Lk_length z.2) then
        some (2, z.1, z.2)
      else
        o_bd (m_Lk_octetAt x1 T0 z.2) fun q2 =>
        if q2 = (-1:Int32) then
          o_bd (m_Tx_cell x1 (Lk_position z.2) T0) fun q4 =>
          m_Lk_decode_j81 n x1 x2 z.1 q2 q4 T0 z.2
        else
          o_bd (m_Lk_decodeOctets n x1 q2 T0 z.2) fun q3 =>
          m_Lk_decode_j81 n x1 x2 z.1 q2 q3.1 T0 q3.2
def m_Lk_decode (n : Nat) (x1 : Int32) (T0 : STx) (Lk : SLk) : Option (Int32 × SLk) :=
  o_bd (m_Tx_size x1 T0) fun q1 =>
  o_bd (o_lp n (m_Lk_decode_b21 n x1 q1 T0) ((0:Int32), (Lk_mk (Lk_characters Lk) (0:Int32) (0:Int32)))) fun q5 =>
  if q5.1 = 1 then
    some ((0:Int32), q5.2.2)
  else
  some ((1:Int32), q5.2.2)
def m_Lk_placeNumber_b38 (n : Nat) (x2 : Int32) (Lk : SLk) (z : Int32 × Int32) : Option (Nat × Int32 × Int32) :=
  if x2 ≤ z.2 then
    some (2, z.1, z.2)
  else
    o_gd (o_in z.2 4000) <|
    o_bd (m_SJ_isDigit ((Lk_characters Lk) z.2.toNatClampNeg)) fun q1 =>
    if q1 = 0 then
      some (1, z.1, z.2)
    else
      o_gd (o_in z.2 4000) <|
      o_nm (((z.1 * (10:Int32)) + ((Lk_characters Lk) z.2.toNatClampNeg)) - (48:Int32)) fun x4_75 =>
      o_nm (z.2 + (1:Int32)) fun x5_77 =>
      some (0, x4_75, x5_77)
def m_Lk_placeNumber_j32 (n : Nat) (x1 : Int32) (x2 : Int32) (Lk : SLk) : Option (Int32) :=
  o_bd (o_lp n (m_Lk_placeNumber_b38 n x2 Lk) ((0:Int32), x1)) fun q2 =>
  if q2.1 = 1 then
    some (-1:Int32)
  else
  some q2.2.1
def m_Lk_placeNumber (n : Nat) (x1 : Int32) (x2 : Int32) (Lk : SLk) : Option (Int32) :=
  o_nm (x2 - x1) fun x3_3 =>
  if x3_3 < (1:Int32) then
    some (-1:Int32)
  else
    if (2:Int32) < x3_3 then
      some (-1:Int32)
    else
      if x3_3 = (2:Int32) then
        o_gd (o_in x1 4000) <|
        if ((Lk_characters Lk) x1.toNatClampNeg) = (48:Int32) then
          some (-1:Int32)
        else
          m_Lk_placeNumber_j32 n x1 x2 Lk
      else
        m_Lk_placeNumber_j32 n x1 x2 Lk
def m_Tx_element_b9 (n : Nat) (x2 : Int32) (a0 : STx) (z : Int32 × Int32) : Option (Nat × Int32 × Int32) :=
  if x2 ≤ z.2 then
    some (1, z.1, z.2)
  else
    if z.1 = (-1:Int32) then
      some (1, z.1, z.2)
    else
      o_bd (m_Tx_nextChild z.1 a0) fun q2 =>
      o_nm (z.2 + (1:Int32)) fun x4_26 =>
      some (0, q2, x4_26)
def m_Tx_element (n : Nat) (x1 : Int32) (x2 : Int32) (a0 : STx) : Option (Int32) :=
  o_bd (m_Tx_firstChild x1 a0) fun q1 =>
  o_bd (o_lp n (m_Tx_element_b9 n x2 a0) (q1, (0:Int32))) fun q3 =>
  some q3.2.1
def m_Lk_isNamed_j82 (n : Nat) (x1 : Int32) (x3 : Int32) (x4 : Int32) (x5 : Int32) (x6 : Int32) (T0 : STx) (Lk : SLk) : Option (Nat × Int32 × Int32) :=
  o_bd (m_Tx_size x1 T0) fun q1 =>
  if q1 ≤ x4 then
    some (2, x4, x5)
  else
    o_bd (m_Tx_cell x1 x4 T0) fun q2 =>
    if q2 = x6 then
      o_nm (x4 + (1:Int32)) fun x4_112 =>
      o_nm (x5 + (1:Int32)) fun x5_115 =>
      some (0, x4_112, x5_115)
    else
      some (2, x4, x5)
def m_Lk_isNamed_j66 (n : Nat) (x1 : Int32) (x3 : Int32) (x4 : Int32) (x5 : Int32) (x7 : Int32) (T0 : STx) (Lk : SLk) : Option (Nat × Int32 × Int32) :=
  if x7 = (48:Int32) then
    m_Lk_isNamed_j82 n x1 x3 x4 x5 (126:Int32) T0 Lk
  else
    m_Lk_isNamed_j82 n x1 x3 x4 x5 (47:Int32) T0 Lk
def m_Lk_isNamed_j48 (n : Nat) (x1 : Int32) (x3 : Int32) (x4 : Int32) (x5 : Int32) (y0 : Int32) (T0 : STx) (Lk : SLk) : Option (Nat × Int32 × Int32) :=
  if y0 = (48:Int32) then
    m_Lk_isNamed_j66 n x1 x3 x4 x5 y0 T0 Lk
  else
    if y0 = (49:Int32) then
      m_Lk_isNamed_j66 n x1 x3 x4 x5 y0 T0 Lk
    else
      some (1, x4, x5)
def m_Lk_isNamed_b6 (n : Nat) (x1 : Int32) (x3 : Int32) (T0 : STx) (Lk : SLk) (z : Int32 × Int32) : Option (Nat × Int32 × Int32) :=
  if x3 ≤ z.2 then
    some (3, z.1, z.2)
  else
    o_gd (o_in z.2 4000) <|
    o_nm ((Lk_characters Lk) z.2.toNatClampNeg) fun x6_19 =>
    if x6_19 = (126:Int32) then
      o_nm (z.2 + (1:Int32)) fun x5_28 =>
      if x3 ≤ x5_28 then
        m_Lk_isNamed_j48 n x1 x3 z.1 x5_28 (-1:Int32) T0 Lk
      else
        o_gd (o_in x5_28 4000) <|
        m_Lk_isNamed_j48 n x1 x3 z.1 x5_28 ((Lk_characters Lk) x5_28.toNatClampNeg) T0 Lk
    else
      m_Lk_isNamed_j82 n x1 x3 z.1 z.2 x6_19 T0 Lk
def m_Lk_isNamed (n : Nat) (x1 : Int32) (x2 : Int32) (x3 : Int32) (T0 : STx) (Lk : SLk) : Option (Int32) :=
  o_bd (o_lp n (m_Lk_isNamed_b6 n x1 x3 T0 Lk) ((0:Int32), x2)) fun q3 =>
  if q3.1 = 1 then
    some (0:Int32)
  else
  if q3.1 = 2 then
    some (0:Int32)
  else
  o_bd (m_Tx_size x1 T0) fun q4 =>
  if q3.2.1 = q4 then
    some (1:Int32)
  else
    some (0:Int32)
def m_Lk_step_b69 (n : Nat) (x1 : Int32) (x2 : Int32) (x3 : Int32) (T0 : STx) (Lk : SLk) (z : Int32 × Int32) : Option (Nat × Int32 × Int32) :=
  o_bd (m_Tx_size x1 T0) fun q4 =>
  if q4 ≤ z.2 then
    some (2, z.1, z.2)
  else
    o_bd (m_Lk_isNamed n (z.1 - (1:Int32)) x2 x3 T0 Lk) fun q5 =>
    if q5 = 0 then
      o_bd (m_Tx_nextChild z.1 T0) fun q6 =>
      o_nm (z.2 + (1:Int32)) fun x5_109 =>
      some (0, q6, x5_109)
    else
      some (1, z.1, z.2)
def m_Lk_step (n : Nat) (x1 : Int32) (x2 : Int32) (x3 : Int32) (T0 : STx) (Lk : SLk) : Option (Int32) :=
  o_bd (m_Tx_kind x1 T0) fun q1 =>
  if q1 = (5:Int32) then
    o_bd (m_Lk_placeNumber n x2 x3 Lk) fun q8 =>
    if q8 = (-1:Int32) then
      some (-1:Int32)
    else
      o_bd (m_Tx_element n x1 q8 T0) fun q9 =>
      some q9
  else
    o_bd (m_Tx_kind x1 T0) fun q2 =>
    if q2 = (6:Int32) then
      o_bd (m_Tx_firstChild x1 T0) fun q3 =>
      o_bd (o_lp n (m_Lk_step_b69 n x1 x2 x3 T0 Lk) (q3, (0:Int32))) fun q7 =>
      if q7.1 = 1 then
        some q7.2.1
      else
      some (-1:Int32)
    else
      some (-1:Int32)
def m_Lk_walk_j33 (n : Nat) (x1 : Int32) (x2 : Int32) (x3 : Int32) (T0 : STx) (Lk : SLk) : Option (Nat × Int32 × Int32 × Int32) :=
  o_bd (m_Lk_step n x1 x2 x3 T0 Lk) fun q1 =>
  o_nm (x3 + (1:Int32)) fun x2_44 =>
  o_nm (x3 + (1:Int32)) fun x3_45 =>
  some (0, q1, x2_44, x3_45)
def m_Lk_walk_b6 (n : Nat) (T0 : STx) (Lk : SLk) (z : Int32 × Int32 × Int32) : Option (Nat × Int32 × Int32 × Int32) :=
  if (Lk_length Lk) < z.2.2 then
    some (1, z.1, z.2.1, z.2.2)
  else
    if z.2.2 = (Lk_length Lk) then
      m_Lk_walk_j33 n z.1 z.2.1 z.2.2 T0 Lk
    else
      o_gd (o_in z.2.2 4000) <|
      if ((Lk_characters Lk) z.2.2.toNatClampNeg) = (47:Int32) then
        m_Lk_walk_j33 n z.1 z.2.1 z.2.2 T0 Lk
      else
        o_nm (z.2.2 + (1:Int32)) fun x3_45 =>
        some (0, z.1, z.2.1, x3_45)
def m_Lk_walk (n : Nat) (T0 : STx) (Lk : SLk) : Option (Int32) :=
  o_bd (o_lp n (m_Lk_walk_b6 n T0 Lk) ((0:Int32), (2:Int32), (2:Int32))) fun q2 =>
  some q2.2.1
def m_Tx_parent (x1 : Int32) (a0 : STx) : Option (Int32) :=
  if x1 < 0 then
    some (-1:Int32)
  else
    if (Tx_total a0) ≤ x1 then
      some (-1:Int32)
    else
      o_gd (o_in x1 1000) <|
      some ((Tx_parents a0) x1.toNatClampNeg)
def m_Lk_anchored_b2 (n : Nat) (T0 : STx) (Mk : SMk) (Lk : SLk) (z : Int32) : Option (Nat × Int32) :=
  o_bd (m_Tx_total T0) fun q1 =>
  if q1 ≤ z then
    some (2, z)
  else
    o_bd (m_Mk_keyword z Mk) fun q2 =>
    o_gd (o_kb q2) <|
    if q2 = 34 then
      o_bd (m_Lk_isNamed n z (1:Int32) (Lk_length Lk) T0 Lk) fun q3 =>
      if q3 = 0 then
        o_nm (z + (1:Int32)) fun x1_49 =>
        some (0, x1_49)
      else
        some (1, z)
    else
      o_nm (z + (1:Int32)) fun x1_49 =>
      some (0, x1_49)
def m_Lk_anchored (n : Nat) (T0 : STx) (Mk : SMk) (Lk : SLk) : Option (Int32) :=
  o_bd (o_lp n (m_Lk_anchored_b2 n T0 Mk Lk) ((0:Int32))) fun q4 =>
  if q4.1 = 1 then
    o_bd (m_Tx_parent q4.2 T0) fun q5 =>
    some q5
  else
  some (-1:Int32)
def m_Lk_resolve_j60 (n : Nat) (y0 : Int32) (T0 : STx) (Mk : SMk) (Lk : SLk) : Option (Int32 × SLk) :=
  o_bd (m_Mk_isSchema y0 Mk) fun q3 =>
  if q3 = 0 then
    some ((-1:Int32), Lk)
  else
    some (y0, Lk)
def m_Lk_resolve (n : Nat) (x1 : Int32) (T0 : STx) (Mk : SMk) (Lk : SLk) : Option (Int32 × SLk) :=
  o_bd (m_Lk_decode n x1 T0 Lk) fun q1 =>
  if q1.1 = 0 then
    some ((-1:Int32), q1.2)
  else
    if (Lk_length q1.2) = 0 then
      some ((-1:Int32), q1.2)
    else
      o_gd (o_in (0:Int32) 4000) <|
      if ((Lk_characters q1.2) (0:Int32).toNatClampNeg) = (35:Int32) then
        if (Lk_length q1.2) = (1:Int32) then
          some ((0:Int32), q1.2)
        else
          o_gd (o_in (1:Int32) 4000) <|
          if ((Lk_characters q1.2) (1:Int32).toNatClampNeg) = (47:Int32) then
            o_bd (m_Lk_walk n T0 q1.2) fun q4 =>
            m_Lk_resolve_j60 n q4 T0 Mk q1.2
          else
            o_bd (m_Lk_anchored n T0 Mk q1.2) fun q2 =>
            m_Lk_resolve_j60 n q2 T0 Mk q1.2
      else
        some ((-1:Int32), q1.2)
def m_Mk_setTarget (x1 : Int32) (x2 : Int32) (Mk : SMk) : Option (SMk) :=
  if x1 < 0 then
    some Mk
  else
    if (1000:Int32) ≤ x1 then
      some Mk
    else
      o_gd (o_in x1 1000) <|
      some (Mk_mk (Mk_keywords Mk) (Mk_schemas Mk) (upd (Mk_targets Mk) x1.toNatClampNeg x2))
def m_Ck_followReferences_b10 (n : Nat) (T0 : STx) (Mk : SMk) (Lk : SLk) (z : Int32 × SCk) : Option (Nat × Int32 × SCk) :=
  if (1000:Int32) ≤ z.1 then
    some (1, z.1, z.2)
  else
    o_gd (o_in z.1 1000) <|
    o_nm (z.1 + (1:Int32)) fun x1_24 =>
    some (0, x1_24, (Ck_mk (upd (Ck_aimedAt z.2) z.1.toNatClampNeg (vp_nar .boolean (0:Int32))) (Ck_reached z.2) (Ck_reachedFrom z.2) (Ck_reachedCount z.2) (Ck_found z.2) (Ck_foundAt z.2)))
def m_Ck_followReferences_b32 (n : Nat) (T0 : STx) (z : Int32 × SMk × SLk × SCk) : Option (Nat × Int32 × SMk × SLk × SCk) :=
  o_bd (m_Tx_total T0) fun q3 =>
  if q3 ≤ z.1 then
    some (1, z.1, z.2.1, z.2.2.1, z.2.2.2)
  else
    o_bd (m_Mk_keyword z.1 z.2.1) fun q4 =>
    o_gd (o_kb q4) <|
    if q4 = 33 then
      o_bd (m_Lk_resolve n z.1 T0 z.2.1 z.2.2.1) fun q5 =>
      o_bd (m_Mk_setTarget z.1 q5.1 z.2.1) fun q6 =>
      if q5.1 = (-1:Int32) then
        o_bd (m_Ck_report (5:Int32) z.1 z.2.2.2) fun q7 =>
        o_nm (z.1 + (1:Int32)) fun x1_103 =>
        some (0, x1_103, q6, q5.2, q7)
      else
        if (1000:Int32) ≤ q5.1 then
          o_nm (z.1 + (1:Int32)) fun x1_103 =>
          some (0, x1_103, q6, q5.2, z.2.2.2)
        else
          o_gd (o_in q5.1 1000) <|
          o_nm (z.1 + (1:Int32)) fun x1_103 =>
          some (0, x1_103, q6, q5.2, (Ck_mk (upd (Ck_aimedAt z.2.2.2) q5.1.toNatClampNeg (vp_nar .boolean (1:Int32))) (Ck_reached z.2.2.2) (Ck_reachedFrom z.2.2.2) (Ck_reachedCount z.2.2.2) (Ck_found z.2.2.2) (Ck_foundAt z.2.2.2)))
    else
      o_nm (z.1 + (1:Int32)) fun x1_103 =>
      some (0, x1_103, z.2.1, z.2.2.1, z.2.2.2)
def m_Ck_followReferences (n : Nat) (T0 : STx) (Mk : SMk) (Lk : SLk) (Ck : SCk) : Option (SMk × SLk × SCk) :=
  o_bd (m_JA_fill n (-1:Int32) (Ck_reachedFrom Ck)) fun q1 =>
  o_bd (o_lp n (m_Ck_followReferences_b10 n T0 Mk Lk) ((0:Int32), (Ck_mk (Ck_aimedAt Ck) (Ck_reached Ck) q1 (Ck_reachedCount Ck) (Ck_found Ck) (Ck_foundAt Ck)))) fun q2 =>
  o_bd (o_lp n (m_Ck_followReferences_b32 n T0) ((0:Int32), Mk, Lk, q2.2.2)) fun q8 =>
  some (q8.2.2.1, q8.2.2.2.1, q8.2.2.2.2)
def m_Mk_schemaCount_j16 (x2 : Int32) (T0 : STx) : Option (Int32) :=
  o_bd (m_Tx_size x2 T0) fun q1 =>
  some q1
def m_Mk_schemaCount (x1 : Nat) (x2 : Int32) (T0 : STx) : Option (Int32) :=
  if (kw_form x1) = (2:Int32) then
    m_Mk_schemaCount_j16 x2 T0
  else
    if (kw_form x1) = (3:Int32) then
      m_Mk_schemaCount_j16 x2 T0
    else
      some (1:Int32)
def m_Mk_firstSchema_j16 (x2 : Int32) (T0 : STx) (Mk : SMk) : Option (Int32) :=
  o_bd (m_Tx_firstChild x2 T0) fun q1 =>
  some q1
def m_Mk_firstSchema (x1 : Nat) (x2 : Int32) (T0 : STx) (Mk : SMk) : Option (Int32) :=
  if (kw_form x1) = (2:Int32) then
    m_Mk_firstSchema_j16 x2 T0 Mk
  else
    if (kw_form x1) = (3:Int32) then
      m_Mk_firstSchema_j16 x2 T0 Mk
    else
      if (kw_form x1) = (8:Int32) then
        if x2 < 0 then
          some (-1:Int32)
        else
          if (1000:Int32) ≤ x2 then
            some (-1:Int32)
          else
            o_gd (o_in x2 1000) <|
            some ((Mk_targets Mk) x2.toNatClampNeg)
      else
        some x2
def m_Ck_spread_j145 (n : Nat) (x1 : Int32) (x2 : Int32) (x3 : Int32) (x4 : Int32) (x6 : Int32) (x7 : Int32) (x8 : Int32) (T0 : STx) (Mk : SMk) (Ck : SCk) : Option (Nat × Int32 × Int32 × SCk) :=
  o_bd (m_Tx_nextChild x7 T0) fun q5 =>
  o_nm (x8 + (1:Int32)) fun x8_156 =>
  some (0, q5, x8_156, Ck)
def m_Ck_spread_b75 (n : Nat) (x1 : Int32) (x2 : Int32) (x3 : Int32) (x4 : Int32) (x6 : Int32) (T0 : STx) (Mk : SMk) (z : Int32 × Int32 × SCk) : Option (Nat × Int32 × Int32 × SCk) :=
  if x6 ≤ z.2.1 then
    some (1, z.1, z.2.1, z.2.2)
  else
    if z.1 < 0 then
      m_Ck_spread_j145 n x1 x2 x3 x4 x6 z.1 z.2.1 T0 Mk z.2.2
    else
      if (1000:Int32) ≤ z.1 then
        m_Ck_spread_j145 n x1 x2 x3 x4 x6 z.1 z.2.1 T0 Mk z.2.2
      else
        o_gd (o_in z.1 1000) <|
        if ((Ck_reachedFrom z.2.2) z.1.toNatClampNeg) = x2 then
          m_Ck_spread_j145 n x1 x2 x3 x4 x6 z.1 z.2.1 T0 Mk z.2.2
        else
          if (1000:Int32) ≤ (Ck_reachedCount z.2.2) then
            m_Ck_spread_j145 n x1 x2 x3 x4 x6 z.1 z.2.1 T0 Mk z.2.2
          else
            o_gd (o_in z.1 1000) <|
            o_gd (o_in (Ck_reachedCount z.2.2) 1000) <|
            m_Ck_spread_j145 n x1 x2 x3 x4 x6 z.1 z.2.1 T0 Mk (Ck_mk (Ck_aimedAt z.2.2) (upd (Ck_reached z.2.2) (Ck_reachedCount z.2.2).toNatClampNeg z.1) (upd (Ck_reachedFrom z.2.2) z.1.toNatClampNeg x2) ((Ck_reachedCount z.2.2) + (1:Int32)) (Ck_found z.2.2) (Ck_foundAt z.2.2))
def m_Ck_spread_j58 (n : Nat) (x1 : Int32) (x2 : Int32) (x3 : Int32) (x4 : Int32) (x5 : Nat) (y0 : Int32) (T0 : STx) (Mk : SMk) (Ck : SCk) : Option (Nat × Int32 × Int32 × SCk) :=
  o_bd (m_Mk_firstSchema x5 x3 T0 Mk) fun q4 =>
  o_bd (o_lp n (m_Ck_spread_b75 n x1 x2 x3 x4 y0 T0 Mk) (q4, (0:Int32), Ck)) fun q6 =>
  o_bd (m_Tx_nextChild x3 T0) fun q7 =>
  o_nm (x4 + (1:Int32)) fun x4_171 =>
  some (0, q7, x4_171, q6.2.2.2)
def m_Ck_spread_b12 (n : Nat) (x1 : Int32) (x2 : Int32) (T0 : STx) (Mk : SMk) (z : Int32 × Int32 × SCk) : Option (Nat × Int32 × Int32 × SCk) :=
  o_bd (m_Tx_size x1 T0) fun q2 =>
  if q2 ≤ z.2.1 then
    some (1, z.1, z.2.1, z.2.2)
  else
    o_bd (m_Mk_keyword z.1 Mk) fun q3 =>
    o_gd (o_kb q3) <|
    if (kw_reach q3) = (2:Int32) then
      o_bd (m_Mk_schemaCount q3 z.1 T0) fun q8 =>
      m_Ck_spread_j58 n x1 x2 z.1 z.2.1 q3 q8 T0 Mk z.2.2
    else
      m_Ck_spread_j58 n x1 x2 z.1 z.2.1 q3 (0:Int32) T0 Mk z.2.2
def m_Ck_spread (n : Nat) (x1 : Int32) (x2 : Int32) (T0 : STx) (Mk : SMk) (Ck : SCk) : Option (SCk) :=
  o_bd (m_Tx_firstChild x1 T0) fun q1 =>
  o_bd (o_lp n (m_Ck_spread_b12 n x1 x2 T0 Mk) (q1, (0:Int32), Ck)) fun q9 =>
  some q9.2.2.2
def m_Ck_leadsBack_b13 (n : Nat) (x1 : Int32) (T0 : STx) (Mk : SMk) (z : Int32 × SCk) : Option (Nat × Int32 × SCk) :=
  if (Ck_reachedCount z.2) ≤ z.1 then
    some (2, z.1, z.2)
  else
    o_gd (o_in z.1 1000) <|
    if ((Ck_reached z.2) z.1.toNatClampNeg) = x1 then
      some (1, z.1, z.2)
    else
      o_gd (o_in z.1 1000) <|
      o_bd (m_Ck_spread n ((Ck_reached z.2) z.1.toNatClampNeg) x1 T0 Mk z.2) fun q2 =>
      o_nm (z.1 + (1:Int32)) fun x2_44 =>
      some (0, x2_44, q2)
def m_Ck_leadsBack (n : Nat) (x1 : Int32) (T0 : STx) (Mk : SMk) (Ck : SCk) : Option (Int32 × SCk) :=
  o_bd (m_Ck_spread n x1 x1 T0 Mk (Ck_mk (Ck_aimedAt Ck) (Ck_reached Ck) (Ck_reachedFrom Ck) (0:Int32) (Ck_found Ck) (Ck_foundAt Ck))) fun q1 =>
  o_bd (o_lp n (m_Ck_leadsBack_b13 n x1 T0 Mk) ((0:Int32), q1)) fun q3 =>
  if q3.1 = 1 then
    some ((1:Int32), q3.2.2)
  else
  some ((0:Int32), q3.2.2)
def m_Ck_findCircle_b2 (n : Nat) (T0 : STx) (Mk : SMk) (z : Int32 × SCk) : Option (Nat × Int32 × SCk) :=
  o_bd (m_Tx_total T0) fun q1 =>
  if q1 ≤ z.1 then
    some (1, z.1, z.2)
  else
    if (Ck_found z.2) = 0 then
      o_gd (o_in z.1 1000) <|
      if ((Ck_aimedAt z.2) z.1.toNatClampNeg) = 0 then
        o_nm (z.1 + (1:Int32)) fun x1_44 =>
        some (0, x1_44, z.2)
      else
        o_bd (m_Ck_leadsBack n z.1 T0 Mk z.2) fun q2 =>
        if q2.1 = 0 then
          o_nm (z.1 + (1:Int32)) fun x1_44 =>
          some (0, x1_44, q2.2)
        else
          o_bd (m_Ck_report (6:Int32) z.1 q2.2) fun q3 =>
          o_nm (z.1 + (1:Int32)) fun x1_44 =>
          some (0, x1_44, q3)
    else
      some (1, z.1, z.2)
def m_Ck_findCircle (n : Nat) (T0 : STx) (Mk : SMk) (Ck : SCk) : Option (SCk) :=
  o_bd (o_lp n (m_Ck_findCircle_b2 n T0 Mk) ((0:Int32), Ck)) fun q4 =>
  some q4.2.2
def m_Ck_inspect_b24 (n : Nat) (T0 : STx) (Lk : SLk) (z : Int32 × SPg × SPt × SMk × SCk) : Option (Nat × Int32 × SPg × SPt × SMk × SCk) :=
  o_bd (m_Tx_total T0) fun q3 =>
  if q3 ≤ z.1 then
    some (1, z.1, z.2.1, z.2.2.1, z.2.2.2.1, z.2.2.2.2)
  else
    o_bd (m_Mk_isSchema z.1 z.2.2.2.1) fun q4 =>
    if q4 = 0 then
      o_nm (z.1 + (1:Int32)) fun x1_51 =>
      some (0, x1_51, z.2.1, z.2.2.1, z.2.2.2.1, z.2.2.2.2)
    else
      o_bd (m_Ck_inspectSchema n z.1 T0 z.2.1 z.2.2.1 z.2.2.2.1 z.2.2.2.2) fun q5 =>
      o_nm (z.1 + (1:Int32)) fun x1_51 =>
      some (0, x1_51, q5.1, q5.2.1, q5.2.2.1, q5.2.2.2)
def m_Ck_inspect_j72 (n : Nat) (T0 : STx) (Pg : SPg) (Pt : SPt) (Mk : SMk) (Lk : SLk) (Ck : SCk) : Option (Int32 × SPg × SPt × SMk × SLk × SCk) :=
  if (Ck_found Ck) = 0 then
    o_bd (m_Ck_findCircle n T0 Mk Ck) fun q8 =>
    some ((Ck_found q8), Pg, Pt, Mk, Lk, q8)
  else
    some ((Ck_found Ck), Pg, Pt, Mk, Lk, Ck)
def m_Ck_inspect (n : Nat) (T0 : STx) (Pg : SPg) (Pt : SPt) (Mk : SMk) (Lk : SLk) (Ck : SCk) : Option (Int32 × SPg × SPt × SMk × SLk × SCk) :=
  o_bd (m_Mk_clear n Mk) fun q1 =>
  o_bd (m_Ck_takeSchema (0:Int32) T0 q1 (Ck_mk (Ck_aimedAt Ck) (Ck_reached Ck) (Ck_reachedFrom Ck) (Ck_reachedCount Ck) (0:Int32) (-1:Int32))) fun q2 =>
  o_bd (o_lp n (m_Ck_inspect_b24 n T0 Lk) ((0:Int32), Pg, Pt, q2.1, q2.2)) fun q6 =>
  o_bd (m_Ck_compareAnchors n T0 q6.2.2.2.2.1 q6.2.2.2.2.2) fun q7 =>
  if (Ck_found q7) = 0 then
    o_bd (m_Ck_followReferences n T0 q6.2.2.2.2.1 Lk q7) fun q9 =>
    m_Ck_inspect_j72 n T0 q6.2.2.1 q6.2.2.2.1 q9.1 q9.2.1 q9.2.2
  else
    m_Ck_inspect_j72 n T0 q6.2.2.1 q6.2.2.2.1 q6.2.2.2.2.1 Lk q7
def m_SJ_check (n : Nat) (T0 : STx) (Pg : SPg) (Pt : SPt) (Mk : SMk) (Lk : SLk) (Ck : SCk) : Option (Nat × Int32 × SPg × SPt × SMk × SLk × SCk) :=
  o_bd (m_Tx_total T0) fun q1 =>
  if q1 = 0 then
    some (3, (0:Int32), Pg, Pt, Mk, Lk, Ck)
  else
    o_bd (m_Ck_inspect n T0 Pg Pt Mk Lk Ck) fun q2 =>
    some (0, q2.1, q2.2.1, q2.2.2.1, q2.2.2.2.1, q2.2.2.2.2.1, q2.2.2.2.2.2)
def m_Ck_faultyValue (Ck : SCk) : Option (Int32) :=
  some (Ck_foundAt Ck)
def m_SJ_fault (Ck : SCk) : Option (Int32) :=
  o_bd (m_Ck_faultyValue Ck) fun q1 =>
  some q1
def m_Ck_passed (Ck : SCk) : Option (Int32) :=
  if (Ck_found Ck) = 0 then
    some (1:Int32)
  else
    some (0:Int32)
def m_Pr_cut (x1 : Int32) (Pr : SPr) : Option (SPr) :=
  if x1 < 0 then
    some Pr
  else
    if (Pr_size Pr) ≤ x1 then
      some Pr
    else
      some (Pr_mk (Pr_values Pr) (Pr_keywords Pr) x1)
def m_Jd_begin (Pr : SPr) (Jd : SJd) : Option (SPr × SJd) :=
  o_bd (m_Pr_cut (0:Int32) Pr) fun q1 =>
  some (q1, (Jd_mk (Jd_evaluated Jd) (0:Int32) (0:Int32) (0:Int32) (0:Int32)))
def m_Jd_enter (x1 : Int32) (Jd : SJd) : Option (Int32 × SJd) :=
  if x1 < (1:Int32) then
    some ((0:Int32), (Jd_mk (Jd_evaluated Jd) (Jd_silences Jd) (1:Int32) ((Jd_schemas Jd) + (1:Int32)) (Jd_deepest Jd)))
  else
    if (100:Int32) < x1 then
      some ((0:Int32), (Jd_mk (Jd_evaluated Jd) (Jd_silences Jd) (1:Int32) ((Jd_schemas Jd) + (1:Int32)) (Jd_deepest Jd)))
    else
      if ((Jd_schemas Jd) + (1:Int32)) ≤ (20000:Int32) then
        o_gd (o_in x1 102) <|
        some ((1:Int32), (Jd_mk (vp_updL (Jd_evaluated Jd) x1.toNatClampNeg (0:Int64)) (Jd_silences Jd) (Jd_over Jd) ((Jd_schemas Jd) + (1:Int32)) (if (Jd_deepest Jd) < x1 then x1 else (Jd_deepest Jd))))
      else
        some ((0:Int32), (Jd_mk (Jd_evaluated Jd) (Jd_silences Jd) (1:Int32) ((Jd_schemas Jd) + (1:Int32)) (Jd_deepest Jd)))
def m_Pr_add_b13 (n : Nat) (x1 : Int32) (x2 : Int32) (Pr : SPr) (z : Int32) : Option (Nat × Int32) :=
  if (Pr_size Pr) ≤ z then
    some (2, z)
  else
    o_gd (o_in z 300) <|
    if ((Pr_values Pr) z.toNatClampNeg) = x1 then
      o_gd (o_in z 300) <|
      if ((Pr_keywords Pr) z.toNatClampNeg) = x2 then
        some (1, z)
      else
        o_nm (z + (1:Int32)) fun x3_42 =>
        some (0, x3_42)
    else
      o_nm (z + (1:Int32)) fun x3_42 =>
      some (0, x3_42)
def m_Pr_add (n : Nat) (x1 : Int32) (x2 : Int32) (Pr : SPr) : Option (SPr) :=
  if (Pr_size Pr) < (300:Int32) then
    o_bd (o_lp n (m_Pr_add_b13 n x1 x2 Pr) ((0:Int32))) fun q1 =>
    if q1.1 = 1 then
      some Pr
    else
    o_gd (o_in (Pr_size Pr) 300) <|
    o_gd (o_in (Pr_size Pr) 300) <|
    some (Pr_mk (upd (Pr_values Pr) (Pr_size Pr).toNatClampNeg x1) (upd (Pr_keywords Pr) (Pr_size Pr).toNatClampNeg x2) ((Pr_size Pr) + (1:Int32)))
  else
    some Pr
def m_Jd_tell (n : Nat) (x1 : Int32) (x2 : Int32) (Pr : SPr) (Jd : SJd) : Option (SPr) :=
  if (Jd_silences Jd) = 0 then
    o_bd (m_Pr_add n x1 x2 Pr) fun q1 =>
    some q1
  else
    some Pr
def m_Kw_comesLast (x0 : Nat) : Option (Int32) :=
  if x0 = 9 then
    some (1:Int32)
  else
    if x0 = 10 then
      some (1:Int32)
    else
      some (0:Int32)
def m_Pr_size (Pr : SPr) : Option (Int32) :=
  some (Pr_size Pr)
def m_Kw_isSilent (x0 : Nat) : Option (Int32) :=
  if x0 = 1 then
    some (1:Int32)
  else
    if x0 = 2 then
      some (1:Int32)
    else
      if x0 = 6 then
        some (1:Int32)
      else
        some (0:Int32)
def m_Mk_find_b12 (n : Nat) (x1 : Int32) (x2 : Nat) (T0 : STx) (Mk : SMk) (z : Int32 × Int32) : Option (Nat × Int32 × Int32) :=
  o_bd (m_Tx_size x1 T0) fun q2 =>
  if q2 ≤ z.2 then
    some (2, z.1, z.2)
  else
    o_bd (m_Mk_keyword z.1 Mk) fun q3 =>
    o_gd (o_kb q3) <|
    if q3 = x2 then
      some (1, z.1, z.2)
    else
      o_bd (m_Tx_nextChild z.1 T0) fun q4 =>
      o_nm (z.2 + (1:Int32)) fun x4_45 =>
      some (0, q4, x4_45)
def m_Mk_find (n : Nat) (x1 : Int32) (x2 : Nat) (T0 : STx) (Mk : SMk) : Option (Int32) :=
  o_bd (m_Tx_firstChild x1 T0) fun q1 =>
  o_bd (o_lp n (m_Mk_find_b12 n x1 x2 T0 Mk) (q1, (0:Int32))) fun q5 =>
  if q5.1 = 1 then
    some q5.2.1
  else
  some (-1:Int32)
def m_Pg_push (x1 : Int32) (x2 : Int32) (Pg : SPg) : Option (SPg) :=
  if x1 < 0 then
    some Pg
  else
    if (1300:Int32) ≤ x1 then
      some Pg
    else
      o_gd (o_in x1 1300) <|
      if ((Pg_rounds Pg) x1.toNatClampNeg) = x2 then
        some Pg
      else
        if (1300:Int32) ≤ (Pg_top Pg) then
          some Pg
        else
          o_gd (o_in x1 1300) <|
          o_gd (o_in (Pg_top Pg) 1300) <|
          some (Pg_mk (Pg_operations Pg) (Pg_arguments Pg) (Pg_length Pg) (Pg_sets Pg) (Pg_setsUsed Pg) (upd (Pg_rounds Pg) x1.toNatClampNeg x2) (upd (Pg_stack Pg) (Pg_top Pg).toNatClampNeg x1) ((Pg_top Pg) + (1:Int32)) (Pg_waiting Pg) (Pg_waitingCount Pg) (Pg_moved Pg))
def m_Pg_follow_j144 (n : Nat) (x1 : Int32) (x2 : Int32) (x3 : Int32) (x4 : Int32) (y1 : Int32) (Pg : SPg) : Option (Nat × Int32 × SPg) :=
  o_bd (m_Pg_push y1 x3 Pg) fun q1 =>
  o_nm (x4 + (1:Int32)) fun x4_205 =>
  some (0, x4_205, q1)
def m_Pg_follow_j165 (n : Nat) (x1 : Int32) (x2 : Int32) (x3 : Int32) (x4 : Int32) (y1 : Int32) (Pg : SPg) : Option (Nat × Int32 × SPg) :=
  o_bd (m_Pg_push y1 x3 Pg) fun q2 =>
  o_nm (x4 + (1:Int32)) fun x4_205 =>
  some (0, x4_205, q2)
def m_Pg_follow_b7 (n : Nat) (x1 : Int32) (x2 : Int32) (x3 : Int32) (z : Int32 × SPg) : Option (Nat × Int32 × SPg) :=
  if (1300:Int32) ≤ z.1 then
    some (2, z.1, z.2)
  else
    if (Pg_top z.2) ≤ 0 then
      some (2, z.1, z.2)
    else
      o_gd (o_in ((Pg_top z.2) - (1:Int32)) 1300) <|
      o_nm ((Pg_stack z.2) ((Pg_top z.2) - (1:Int32)).toNatClampNeg) fun x5_41 =>
      o_gd (o_in x5_41 1300) <|
      o_nm ((Pg_operations z.2) x5_41.toNatClampNeg) fun w50 =>
      if w50 = (4:Int32) then
        if x1 = 0 then
          m_Pg_follow_j144 n x1 x2 x3 z.1 (x5_41 + (1:Int32)) (Pg_mk (Pg_operations z.2) (Pg_arguments z.2) (Pg_length z.2) (Pg_sets z.2) (Pg_setsUsed z.2) (Pg_rounds z.2) (Pg_stack z.2) ((Pg_top z.2) - (1:Int32)) (Pg_waiting z.2) (Pg_waitingCount z.2) (Pg_moved z.2))
        else
          m_Pg_follow_j144 n x1 x2 x3 z.1 (-1:Int32) (Pg_mk (Pg_operations z.2) (Pg_arguments z.2) (Pg_length z.2) (Pg_sets z.2) (Pg_setsUsed z.2) (Pg_rounds z.2) (Pg_stack z.2) ((Pg_top z.2) - (1:Int32)) (Pg_waiting z.2) (Pg_waitingCount z.2) (Pg_moved z.2))
      else
      if w50 = (5:Int32) then
        if x1 = x2 then
          m_Pg_follow_j165 n x1 x2 x3 z.1 (x5_41 + (1:Int32)) (Pg_mk (Pg_operations z.2) (Pg_arguments z.2) (Pg_length z.2) (Pg_sets z.2) (Pg_setsUsed z.2) (Pg_rounds z.2) (Pg_stack z.2) ((Pg_top z.2) - (1:Int32)) (Pg_waiting z.2) (Pg_waitingCount z.2) (Pg_moved z.2))
        else
          m_Pg_follow_j165 n x1 x2 x3 z.1 (-1:Int32) (Pg_mk (Pg_operations z.2) (Pg_arguments z.2) (Pg_length z.2) (Pg_sets z.2) (Pg_setsUsed z.2) (Pg_rounds z.2) (Pg_stack z.2) ((Pg_top z.2) - (1:Int32)) (Pg_waiting z.2) (Pg_waitingCount z.2) (Pg_moved z.2))
      else
      if w50 = (6:Int32) then
        o_bd (m_Pg_push (x5_41 + (1:Int32)) x3 (Pg_mk (Pg_operations z.2) (Pg_arguments z.2) (Pg_length z.2) (Pg_sets z.2) (Pg_setsUsed z.2) (Pg_rounds z.2) (Pg_stack z.2) ((Pg_top z.2) - (1:Int32)) (Pg_waiting z.2) (Pg_waitingCount z.2) (Pg_moved z.2))) fun q3 =>
        o_gd (o_in x5_41 1300) <|
        o_bd (m_Pg_push (x5_41 + ((Pg_arguments q3) x5_41.toNatClampNeg)) x3 q3) fun q4 =>
        o_nm (z.1 + (1:Int32)) fun x4_205 =>
        some (0, x4_205, q4)
      else
      if w50 = (7:Int32) then
        o_gd (o_in x5_41 1300) <|
        o_bd (m_Pg_push (x5_41 + ((Pg_arguments z.2) x5_41.toNatClampNeg)) x3 (Pg_mk (Pg_operations z.2) (Pg_arguments z.2) (Pg_length z.2) (Pg_sets z.2) (Pg_setsUsed z.2) (Pg_rounds z.2) (Pg_stack z.2) ((Pg_top z.2) - (1:Int32)) (Pg_waiting z.2) (Pg_waitingCount z.2) (Pg_moved z.2))) fun q5 =>
        o_nm (z.1 + (1:Int32)) fun x4_205 =>
        some (0, x4_205, q5)
      else
      if w50 = (8:Int32) then
        some (1, z.1, (Pg_mk (Pg_operations z.2) (Pg_arguments z.2) (Pg_length z.2) (Pg_sets z.2) (Pg_setsUsed z.2) (Pg_rounds z.2) (Pg_stack z.2) ((Pg_top z.2) - (1:Int32)) (Pg_waiting z.2) (Pg_waitingCount z.2) (Pg_moved z.2)))
      else
      if (1300:Int32) ≤ (Pg_waitingCount z.2) then
        o_nm (z.1 + (1:Int32)) fun x4_205 =>
        some (0, x4_205, (Pg_mk (Pg_operations z.2) (Pg_arguments z.2) (Pg_length z.2) (Pg_sets z.2) (Pg_setsUsed z.2) (Pg_rounds z.2) (Pg_stack z.2) ((Pg_top z.2) - (1:Int32)) (Pg_waiting z.2) (Pg_waitingCount z.2) (Pg_moved z.2)))
      else
        o_gd (o_in (Pg_waitingCount z.2) 1300) <|
        o_nm (z.1 + (1:Int32)) fun x4_205 =>
        some (0, x4_205, (Pg_mk (Pg_operations z.2) (Pg_arguments z.2) (Pg_length z.2) (Pg_sets z.2) (Pg_setsUsed z.2) (Pg_rounds z.2) (Pg_stack z.2) ((Pg_top z.2) - (1:Int32)) (upd (Pg_waiting z.2) (Pg_waitingCount z.2).toNatClampNeg x5_41) ((Pg_waitingCount z.2) + (1:Int32)) (Pg_moved z.2)))
def m_Pg_follow (n : Nat) (x1 : Int32) (x2 : Int32) (Pg : SPg) : Option (Int32 × SPg) :=
  o_nm (x1 + (1:Int32)) fun x3_3 =>
  o_bd (o_lp n (m_Pg_follow_b7 n x1 x2 x3_3) ((0:Int32), Pg)) fun q6 =>
  if q6.1 = 1 then
    some ((1:Int32), q6.2.2)
  else
  some ((0:Int32), q6.2.2)
def m_Pg_inClasses_j194 (y0 : Int32) (y1 : Int32) : Option (Int32) :=
  if (y0 &&& y1) = 0 then
    some (0:Int32)
  else
    some (1:Int32)
def m_Pg_inClasses_j177 (x0 : Int32) (x4 : Int32) (y0 : Int32) (y1 : Int32) : Option (Int32) :=
  if (y0 &&& y1) = 0 then
    if x4 = 0 then
      m_Pg_inClasses_j194 x0 (32:Int32)
    else
      m_Pg_inClasses_j194 x0 (16:Int32)
  else
    some (1:Int32)
def m_Pg_inClasses_j162 (x0 : Int32) (x3 : Int32) (x4 : Int32) (y0 : Int32) (y1 : Int32) : Option (Int32) :=
  if (y0 &&& y1) = 0 then
    if x3 = 0 then
      m_Pg_inClasses_j177 x0 x4 x0 (8:Int32)
    else
      m_Pg_inClasses_j177 x0 x4 x0 (4:Int32)
  else
    some (1:Int32)
def m_Pg_inClasses_j150 (x0 : Int32) (x2 : Int32) (x3 : Int32) (y0 : Int32) : Option (Int32) :=
  if x2 = 0 then
    m_Pg_inClasses_j162 x0 x3 y0 x0 (2:Int32)
  else
    m_Pg_inClasses_j162 x0 x3 y0 x0 (1:Int32)
def m_Pg_inClasses_j104 (x0 : Int32) (x1 : Int32) (x2 : Int32) (x3 : Int32) : Option (Int32) :=
  if x1 = (8232:Int32) then
    m_Pg_inClasses_j150 x0 x2 x3 (1:Int32)
  else
    if x1 = (8233:Int32) then
      m_Pg_inClasses_j150 x0 x2 x3 (1:Int32)
    else
      if x1 = (8239:Int32) then
        m_Pg_inClasses_j150 x0 x2 x3 (1:Int32)
      else
        if x1 = (8287:Int32) then
          m_Pg_inClasses_j150 x0 x2 x3 (1:Int32)
        else
          if x1 = (12288:Int32) then
            m_Pg_inClasses_j150 x0 x2 x3 (1:Int32)
          else
            if x1 = (65279:Int32) then
              m_Pg_inClasses_j150 x0 x2 x3 (1:Int32)
            else
              m_Pg_inClasses_j150 x0 x2 x3 (0:Int32)
def m_Pg_inClasses_j70 (x0 : Int32) (x1 : Int32) (x2 : Int32) (x3 : Int32) : Option (Int32) :=
  if x1 = (32:Int32) then
    m_Pg_inClasses_j150 x0 x2 x3 (1:Int32)
  else
    if x1 = (160:Int32) then
      m_Pg_inClasses_j150 x0 x2 x3 (1:Int32)
    else
      if x1 = (5760:Int32) then
        m_Pg_inClasses_j150 x0 x2 x3 (1:Int32)
      else
        if x1 < (8192:Int32) then
          m_Pg_inClasses_j104 x0 x1 x2 x3
        else
          if x1 ≤ (8202:Int32) then
            m_Pg_inClasses_j150 x0 x2 x3 (1:Int32)
          else
            m_Pg_inClasses_j104 x0 x1 x2 x3
def m_Pg_inClasses_j57 (x0 : Int32) (x1 : Int32) (x2 : Int32) (y0 : Int32) : Option (Int32) :=
  if x1 < (9:Int32) then
    m_Pg_inClasses_j70 x0 x1 x2 y0
  else
    if x1 ≤ (13:Int32) then
      m_Pg_inClasses_j150 x0 x2 y0 (1:Int32)
    else
      m_Pg_inClasses_j70 x0 x1 x2 y0
def m_Pg_inClasses_j46 (x0 : Int32) (x1 : Int32) (x2 : Int32) : Option (Int32) :=
  if x1 = (95:Int32) then
    m_Pg_inClasses_j57 x0 x1 x2 (1:Int32)
  else
    m_Pg_inClasses_j57 x0 x1 x2 (0:Int32)
def m_Pg_inClasses_j34 (x0 : Int32) (x1 : Int32) (x2 : Int32) : Option (Int32) :=
  if x1 < (65:Int32) then
    m_Pg_inClasses_j46 x0 x1 x2
  else
    if x1 ≤ (90:Int32) then
      m_Pg_inClasses_j57 x0 x1 x2 (1:Int32)
    else
      m_Pg_inClasses_j46 x0 x1 x2
def m_Pg_inClasses_j17 (x0 : Int32) (x1 : Int32) (y0 : Int32) : Option (Int32) :=
  if y0 = 0 then
    if x1 < (97:Int32) then
      m_Pg_inClasses_j34 x0 x1 y0
    else
      if x1 ≤ (122:Int32) then
        m_Pg_inClasses_j57 x0 x1 y0 (1:Int32)
      else
        m_Pg_inClasses_j34 x0 x1 y0
  else
    m_Pg_inClasses_j57 x0 x1 y0 (1:Int32)
def m_Pg_inClasses (x0 : Int32) (x1 : Int32) : Option (Int32) :=
  if x1 < (48:Int32) then
    m_Pg_inClasses_j17 x0 x1 (0:Int32)
  else
    if (57:Int32) < x1 then
      m_Pg_inClasses_j17 x0 x1 (0:Int32)
    else
      m_Pg_inClasses_j17 x0 x1 (1:Int32)
def m_Pg_inRanges_b27 (n : Nat) (x1 : Int32) (x2 : Int32) (x3 : Int32) (Pg : SPg) (z : Int32) : Option (Nat × Int32) :=
  if x3 ≤ z then
    some (2, z)
  else
    o_nm ((x1 + (2:Int32)) + ((2:Int32) * z)) fun x5_41 =>
    if (8000:Int32) ≤ (x5_41 + (1:Int32)) then
      o_nm (z + (1:Int32)) fun x4_81 =>
      some (0, x4_81)
    else
      o_gd (o_in x5_41 8000) <|
      if x2 < ((Pg_sets Pg) x5_41.toNatClampNeg) then
        o_nm (z + (1:Int32)) fun x4_81 =>
        some (0, x4_81)
      else
        o_gd (o_in (x5_41 + (1:Int32)) 8000) <|
        if ((Pg_sets Pg) (x5_41 + (1:Int32)).toNatClampNeg) < x2 then
          o_nm (z + (1:Int32)) fun x4_81 =>
          some (0, x4_81)
        else
          some (1, z)
def m_Pg_inRanges (n : Nat) (x1 : Int32) (x2 : Int32) (Pg : SPg) : Option (Int32) :=
  if x1 < 0 then
    o_bd (o_lp n (m_Pg_inRanges_b27 n x1 x2 (0:Int32) Pg) ((0:Int32))) fun q1 =>
    if q1.1 = 1 then
      some (1:Int32)
    else
    some (0:Int32)
  else
    if (8000:Int32) ≤ x1 then
      o_bd (o_lp n (m_Pg_inRanges_b27 n x1 x2 (0:Int32) Pg) ((0:Int32))) fun q2 =>
      if q2.1 = 1 then
        some (1:Int32)
      else
      some (0:Int32)
    else
      o_gd (o_in x1 8000) <|
      o_nm ((Pg_sets Pg) x1.toNatClampNeg) fun x3_23 =>
      o_bd (o_lp n (m_Pg_inRanges_b27 n x1 x2 x3_23 Pg) ((0:Int32))) fun q3 =>
      if q3.1 = 1 then
        some (1:Int32)
      else
      some (0:Int32)
def m_Pg_accepts_j166 (n : Nat) (y0 : Int32) (y1 : Int32) (Pg : SPg) : Option (Int32) :=
  if y0 = y1 then
    some (0:Int32)
  else
    some (1:Int32)
def m_Pg_accepts_j153 (n : Nat) (x4 : Int32) (y0 : Int32) (Pg : SPg) : Option (Int32) :=
  if (x4 &&& (64:Int32)) = 0 then
    m_Pg_accepts_j166 n y0 (0:Int32) Pg
  else
    m_Pg_accepts_j166 n y0 (1:Int32) Pg
def m_Pg_accepts_j128 (n : Nat) (x2 : Int32) (x3 : Int32) (y0 : Int32) (Pg : SPg) : Option (Int32) :=
  o_bd (m_Pg_inRanges n x3 x2 Pg) fun q2 =>
  if q2 = 0 then
    o_bd (m_Pg_inClasses y0 x2) fun q3 =>
    if q3 = 0 then
      m_Pg_accepts_j153 n y0 (0:Int32) Pg
    else
      m_Pg_accepts_j153 n y0 (1:Int32) Pg
  else
    m_Pg_accepts_j153 n y0 (1:Int32) Pg
def m_Pg_accepts (n : Nat) (x1 : Int32) (x2 : Int32) (Pg : SPg) : Option (Int32) :=
  if x1 < 0 then
    some (0:Int32)
  else
    if x1 < (1300:Int32) then
      o_gd (o_in x1 1300) <|
      o_nm ((Pg_arguments Pg) x1.toNatClampNeg) fun x3_19 =>
      o_gd (o_in x1 1300) <|
      o_nm ((Pg_operations Pg) x1.toNatClampNeg) fun w26 =>
      if w26 = (0:Int32) then
        if x3_19 = x2 then
          some (1:Int32)
        else
          some (0:Int32)
      else
      if w26 = (1:Int32) then
        if x2 = (10:Int32) then
          some (0:Int32)
        else
          if x2 = (13:Int32) then
            some (0:Int32)
          else
            if x2 = (8232:Int32) then
              some (0:Int32)
            else
              if x2 = (8233:Int32) then
                some (0:Int32)
              else
                some (1:Int32)
      else
      if w26 = (2:Int32) then
        o_bd (m_Pg_inClasses x3_19 x2) fun q1 =>
        o_gd (o_zb q1) <|
        some q1
      else
      if x3_19 < 0 then
        m_Pg_accepts_j128 n x2 x3_19 (0:Int32) Pg
      else
        if (8000:Int32) ≤ (x3_19 + (1:Int32)) then
          m_Pg_accepts_j128 n x2 x3_19 (0:Int32) Pg
        else
          o_gd (o_in (x3_19 + (1:Int32)) 8000) <|
          m_Pg_accepts_j128 n x2 x3_19 ((Pg_sets Pg) (x3_19 + (1:Int32)).toNatClampNeg) Pg
    else
      some (0:Int32)
def m_Pg_finds_b2 (n : Nat) (x2 : Int32) (a1 : STx) (z : Int32 × SPg) : Option (Nat × Int32 × SPg) :=
  if (Pg_length z.2) ≤ z.1 then
    some (1, z.1, z.2)
  else
    if (1300:Int32) ≤ z.1 then
      some (1, z.1, z.2)
    else
      o_gd (o_in z.1 1300) <|
      o_nm (z.1 + (1:Int32)) fun x3_24 =>
      some (0, x3_24, (Pg_mk (Pg_operations z.2) (Pg_arguments z.2) (Pg_length z.2) (Pg_sets z.2) (Pg_setsUsed z.2) (upd (Pg_rounds z.2) z.1.toNatClampNeg (0:Int32)) (Pg_stack z.2) (Pg_top z.2) (Pg_waiting z.2) (Pg_waitingCount z.2) (Pg_moved z.2)))
def m_Pg_finds_b71 (n : Nat) (x2 : Int32) (x3 : Int32) (x4 : Int32) (x5 : Int32) (a1 : STx) (z : Int32 × SPg) : Option (Nat × Int32 × SPg) :=
  if x3 ≤ z.1 then
    some (1, z.1, z.2)
  else
    o_gd (o_in z.1 1300) <|
    o_bd (m_Pg_push ((Pg_moved z.2) z.1.toNatClampNeg) (x5 + (1:Int32)) z.2) fun q4 =>
    o_nm (z.1 + (1:Int32)) fun x6_92 =>
    some (0, x6_92, q4)
def m_Pg_finds_b125 (n : Nat) (x2 : Int32) (x4 : Int32) (x5 : Int32) (x6 : Int32) (a1 : STx) (z : Int32 × Int32 × SPg) : Option (Nat × Int32 × Int32 × SPg) :=
  if (Pg_waitingCount z.2.2) ≤ z.2.1 then
    some (1, z.1, z.2.1, z.2.2)
  else
    o_gd (o_in z.2.1 1300) <|
    o_nm ((Pg_waiting z.2.2) z.2.1.toNatClampNeg) fun x8_141 =>
    o_bd (m_Pg_accepts n x8_141 x6 z.2.2) fun q8 =>
    if q8 = 0 then
      o_nm (z.2.1 + (1:Int32)) fun x7_176 =>
      some (0, z.1, x7_176, z.2.2)
    else
      if (1300:Int32) ≤ z.1 then
        o_nm (z.2.1 + (1:Int32)) fun x7_176 =>
        some (0, z.1, x7_176, z.2.2)
      else
        o_gd (o_in z.1 1300) <|
        o_nm (z.1 + (1:Int32)) fun x3_173 =>
        o_nm (z.2.1 + (1:Int32)) fun x7_176 =>
        some (0, x3_173, x7_176, (Pg_mk (Pg_operations z.2.2) (Pg_arguments z.2.2) (Pg_length z.2.2) (Pg_sets z.2.2) (Pg_setsUsed z.2.2) (Pg_rounds z.2.2) (Pg_stack z.2.2) (Pg_top z.2.2) (Pg_waiting z.2.2) (Pg_waitingCount z.2.2) (upd (Pg_moved z.2.2) z.1.toNatClampNeg (x8_141 + (1:Int32)))))
def m_Pg_finds_b42 (n : Nat) (x2 : Int32) (x4 : Int32) (a1 : STx) (z : Int32 × Int32 × SPg) : Option (Nat × Int32 × Int32 × SPg) :=
  if x4 < z.2.1 then
    some (2, z.1, z.2.1, z.2.2)
  else
    o_bd (m_Pg_push (0:Int32) (z.2.1 + (1:Int32)) (Pg_mk (Pg_operations z.2.2) (Pg_arguments z.2.2) (Pg_length z.2.2) (Pg_sets z.2.2) (Pg_setsUsed z.2.2) (Pg_rounds z.2.2) (Pg_stack z.2.2) (0:Int32) (Pg_waiting z.2.2) (0:Int32) (Pg_moved z.2.2))) fun q3 =>
    o_bd (o_lp n (m_Pg_finds_b71 n x2 z.1 x4 z.2.1 a1) ((0:Int32), q3)) fun q5 =>
    o_bd (m_Pg_follow n z.2.1 x4 q5.2.2) fun q6 =>
    if q6.1 = 0 then
      o_bd (m_Tx_cell x2 z.2.1 a1) fun q7 =>
      o_bd (o_lp n (m_Pg_finds_b125 n x2 x4 z.2.1 q7 a1) ((0:Int32), (0:Int32), q6.2)) fun q9 =>
      o_nm (z.2.1 + (1:Int32)) fun x5_182 =>
      some (0, q9.2.1, x5_182, q9.2.2.2)
    else
      some (1, z.1, z.2.1, q6.2)
def m_Pg_finds_j30 (n : Nat) (x2 : Int32) (a1 : STx) (Pg : SPg) : Option (Int32 × SPg) :=
  o_bd (m_Tx_size x2 a1) fun q2 =>
  o_bd (o_lp n (m_Pg_finds_b42 n x2 q2 a1) ((0:Int32), (0:Int32), Pg)) fun q10 =>
  if q10.1 = 1 then
    some ((1:Int32), q10.2.2.2)
  else
  some ((0:Int32), q10.2.2.2)
def m_Pg_finds (n : Nat) (x2 : Int32) (a1 : STx) (Pg : SPg) : Option (Int32 × SPg) :=
  o_bd (o_lp n (m_Pg_finds_b2 n x2 a1) ((0:Int32), Pg)) fun q1 =>
  m_Pg_finds_j30 n x2 a1 q1.2.2
def m_Jd_matching_j80 (n : Nat) (x2 : Int32) (x3 : Int64) (x5 : Int32) (x6 : Int32) (T0 : STx) (T1 : STx) (Pg : SPg) (Pt : SPt) : Option (Nat × Int64 × Int32 × Int32 × SPg) :=
  o_bd (m_Tx_nextChild x5 T1) fun q6 =>
  o_nm (x6 + (1:Int32)) fun x6_91 =>
  some (0, x3, q6, x6_91, Pg)
def m_Jd_matching_b42 (n : Nat) (x2 : Int32) (T0 : STx) (T1 : STx) (Pt : SPt) (z : Int64 × Int32 × Int32 × SPg) : Option (Nat × Int64 × Int32 × Int32 × SPg) :=
  o_bd (m_Tx_size x2 T1) fun q4 =>
  if q4 ≤ z.2.2.1 then
    some (1, z.1, z.2.1, z.2.2.1, z.2.2.2)
  else
    o_bd (m_Pg_finds n (z.2.1 - (1:Int32)) T1 z.2.2.2) fun q5 =>
    if q5.1 = 0 then
      m_Jd_matching_j80 n x2 z.1 z.2.1 z.2.2.1 T0 T1 q5.2 Pt
    else
      o_nm (z.1 ||| ((1:Int64) <<< (z.2.2.1.toInt64 &&& 63))) fun x3_79 =>
      m_Jd_matching_j80 n x2 x3_79 z.2.1 z.2.2.1 T0 T1 q5.2 Pt
def m_Jd_matching (n : Nat) (x1 : Int32) (x2 : Int32) (T0 : STx) (T1 : STx) (Pg : SPg) (Pt : SPt) : Option (Int64 × SPg × SPt) :=
  o_bd (m_Pt_tokenise n x1 T0 Pt) fun q1 =>
  if q1.1 = 0 then
    some ((0:Int64), Pg, q1.2)
  else
    o_bd (m_Pt_parse n Pg q1.2) fun q2 =>
    if q2.1 = 0 then
      some ((0:Int64), q2.2.1, q2.2.2)
    else
      o_bd (m_Tx_firstChild x2 T1) fun q3 =>
      o_bd (o_lp n (m_Jd_matching_b42 n x2 T0 T1 q2.2.2) ((0:Int64), q3, (0:Int32), q2.2.1)) fun q7 =>
      some (q7.2.1, q7.2.2.2.2, q2.2.2)
def m_Jd_named_j55 (n : Nat) (x1 : Int32) (x2 : Int32) (x3 : Int64) (x5 : Int32) (x6 : Int32) (T0 : STx) (T1 : STx) : Option (Nat × Int64 × Int32 × Int32) :=
  o_bd (m_Tx_nextChild x5 T1) fun q4 =>
  o_nm (x6 + (1:Int32)) fun x6_66 =>
  some (0, x3, q4, x6_66)
def m_Jd_named_b15 (n : Nat) (x1 : Int32) (x2 : Int32) (T0 : STx) (T1 : STx) (z : Int64 × Int32 × Int32) : Option (Nat × Int64 × Int32 × Int32) :=
  o_bd (m_Tx_size x2 T1) fun q2 =>
  if q2 ≤ z.2.2 then
    some (1, z.1, z.2.1, z.2.2)
  else
    o_bd (m_Tx_member n x1 (z.2.1 - (1:Int32)) T0 T1) fun q3 =>
    if q3 = (-1:Int32) then
      m_Jd_named_j55 n x1 x2 z.1 z.2.1 z.2.2 T0 T1
    else
      o_nm (z.1 ||| ((1:Int64) <<< (z.2.2.toInt64 &&& 63))) fun x3_54 =>
      m_Jd_named_j55 n x1 x2 x3_54 z.2.1 z.2.2 T0 T1
def m_Jd_named (n : Nat) (x1 : Int32) (x2 : Int32) (T0 : STx) (T1 : STx) : Option (Int64) :=
  o_bd (m_Tx_firstChild x2 T1) fun q1 =>
  o_bd (o_lp n (m_Jd_named_b15 n x1 x2 T0 T1) ((0:Int64), q1, (0:Int32))) fun q5 =>
  some q5.2.1
def m_Jd_skipped_b162 (n : Nat) (x4 : Int32) (x9 : Int32) (T0 : STx) (T1 : STx) (Mk : SMk) (Jd : SJd) (z : Int64 × Int32 × Int32 × SPg × SPt) : Option (Nat × Int64 × Int32 × Int32 × SPg × SPt) :=
  o_bd (m_Tx_size x9 T0) fun q11 =>
  if q11 ≤ z.2.2.1 then
    some (1, z.1, z.2.1, z.2.2.1, z.2.2.2.1, z.2.2.2.2)
  else
    o_bd (m_Jd_matching n (z.2.1 - (1:Int32)) x4 T0 T1 z.2.2.2.1 z.2.2.2.2) fun q12 =>
    o_nm (z.1 ||| q12.1) fun x7_189 =>
    o_bd (m_Tx_nextChild z.2.1 T0) fun q13 =>
    o_nm (z.2.2.1 + (1:Int32)) fun x11_202 =>
    some (0, x7_189, q13, x11_202, q12.2.1, q12.2.2)
def m_Jd_skipped (n : Nat) (x1 : Nat) (x2 : Int32) (x3 : Int32) (x4 : Int32) (x5 : Int32) (T0 : STx) (T1 : STx) (Pg : SPg) (Pt : SPt) (Mk : SMk) (Jd : SJd) : Option (Int64 × SPg × SPt) :=
  o_gd (o_in (nI x1) 45) <|
  o_nm (sw_Keyword (nI x1).toNatClampNeg) fun w8 =>
  if w8 = (4:Int32) then
    o_bd (m_Tx_parent x2 T0) fun q1 =>
    o_bd (m_Mk_find n q1 14 T0 Mk) fun q2 =>
    if q2 = (-1:Int32) then
      some ((0:Int64), Pg, Pt)
    else
      o_bd (m_Tx_size q2 T0) fun q3 =>
      some ((((1:Int64) <<< (q3.toInt64 &&& 63)) - (1:Int64)), Pg, Pt)
  else
  if w8 = (5:Int32) then
    o_bd (m_Jd_matching n (x3 - (1:Int32)) x4 T0 T1 Pg Pt) fun q4 =>
    some ((q4.1 ^^^ (-1:Int64)), q4.2.1, q4.2.2)
  else
  if w8 = (6:Int32) then
    o_bd (m_Tx_parent x2 T0) fun q5 =>
    o_bd (m_Mk_find n q5 16 T0 Mk) fun q6 =>
    o_bd (m_Jd_named n q6 x4 T0 T1) fun q7 =>
    o_bd (m_Tx_parent x2 T0) fun q8 =>
    o_bd (m_Mk_find n q8 17 T0 Mk) fun q9 =>
    o_bd (m_Tx_firstChild q9 T0) fun q10 =>
    o_bd (o_lp n (m_Jd_skipped_b162 n x4 q9 T0 T1 Mk Jd) (q7, q10, (0:Int32), Pg, Pt)) fun q14 =>
    some (q14.2.1, q14.2.2.2.2.1, q14.2.2.2.2.2)
  else
  if w8 = (7:Int32) then
    if x5 < 0 then
      some ((0:Int64), Pg, Pt)
    else
      if (102:Int32) ≤ x5 then
        some ((0:Int64), Pg, Pt)
      else
        o_gd (o_in x5 102) <|
        some (((Jd_evaluated Jd) x5.toNatClampNeg), Pg, Pt)
  else
  if w8 = (8:Int32) then
    if x5 < 0 then
      some ((0:Int64), Pg, Pt)
    else
      if (102:Int32) ≤ x5 then
        some ((0:Int64), Pg, Pt)
      else
        o_gd (o_in x5 102) <|
        some (((Jd_evaluated Jd) x5.toNatClampNeg), Pg, Pt)
  else
  some ((0:Int64), Pg, Pt)
def m_Jd_firstTarget (n : Nat) (x1 : Nat) (x2 : Int32) (x3 : Int32) (T0 : STx) (T1 : STx) : Option (Int32) :=
  o_gd (o_in (nI x1) 45) <|
  o_nm (sw_Keyword (nI x1).toNatClampNeg) fun w8 =>
  if w8 = (1:Int32) then
    o_bd (m_Tx_member n x3 (x2 - (1:Int32)) T1 T0) fun q1 =>
    some q1
  else
  if w8 = (2:Int32) then
    o_bd (m_Tx_slot x2 T0) fun q2 =>
    o_bd (m_Tx_element n x3 q2 T1) fun q3 =>
    some q3
  else
  if w8 = (3:Int32) then
    o_bd (m_Tx_member n x3 (x2 - (1:Int32)) T1 T0) fun q4 =>
    if q4 = (-1:Int32) then
      some (-1:Int32)
    else
      some x3
  else
  if (kw_reach x1) = (4:Int32) then
    o_bd (m_Tx_firstChild x3 T1) fun q5 =>
    some q5
  else
    some x3
def m_Jd_remember_j81 (x3 : Int32) (x4 : Int32) (Jd : SJd) : Option (SJd) :=
  o_gd (o_in x4 102) <|
  o_gd (o_in x4 102) <|
  some (Jd_mk (vp_updL (Jd_evaluated Jd) x4.toNatClampNeg (((Jd_evaluated Jd) x4.toNatClampNeg) ||| ((1:Int64) <<< (x3.toInt64 &&& 63)))) (Jd_silences Jd) (Jd_over Jd) (Jd_schemas Jd) (Jd_deepest Jd))
def m_Jd_remember (x1 : Nat) (x2 : Int32) (x3 : Int32) (x4 : Int32) (Jd : SJd) : Option (SJd) :=
  if x4 < 0 then
    some Jd
  else
    if (x4 + (1:Int32)) < (102:Int32) then
      if (kw_reach x1) = (2:Int32) then
        o_gd (o_in x4 102) <|
        if x2 = 0 then
          o_gd (o_in x4 102) <|
          some (Jd_mk (vp_updL (Jd_evaluated Jd) x4.toNatClampNeg (((Jd_evaluated Jd) x4.toNatClampNeg) ||| (0:Int64))) (Jd_silences Jd) (Jd_over Jd) (Jd_schemas Jd) (Jd_deepest Jd))
        else
          if x1 = 1 then
            o_gd (o_in x4 102) <|
            some (Jd_mk (vp_updL (Jd_evaluated Jd) x4.toNatClampNeg (((Jd_evaluated Jd) x4.toNatClampNeg) ||| (0:Int64))) (Jd_silences Jd) (Jd_over Jd) (Jd_schemas Jd) (Jd_deepest Jd))
          else
            o_gd (o_in (x4 + (1:Int32)) 102) <|
            o_gd (o_in x4 102) <|
            some (Jd_mk (vp_updL (Jd_evaluated Jd) x4.toNatClampNeg (((Jd_evaluated Jd) x4.toNatClampNeg) ||| ((Jd_evaluated Jd) (x4 + (1:Int32)).toNatClampNeg))) (Jd_silences Jd) (Jd_over Jd) (Jd_schemas Jd) (Jd_deepest Jd))
      else
        if x1 = 8 then
          some Jd
        else
          if x2 = 0 then
            if x1 = 6 then
              some Jd
            else
              m_Jd_remember_j81 x3 x4 Jd
          else
            m_Jd_remember_j81 x3 x4 Jd
    else
      some Jd
def m_Jd_verdict_j131 (n : Nat) (x3 : Int32) (x6 : Int32) (y0 : Int32) (y1 : Int32) (T0 : STx) (Mk : SMk) : Option (Int32) :=
  if y0 < y1 then
    some (0:Int32)
  else
    if x6 = (-1:Int32) then
      some (1:Int32)
    else
      o_bd (m_Tx_wholeNumber n x6 T0) fun q6 =>
      if q6 < x3 then
        some (0:Int32)
      else
        some (1:Int32)
def m_Jd_verdict (n : Nat) (x1 : Nat) (x2 : Int32) (x3 : Int32) (x4 : Int32) (T0 : STx) (Mk : SMk) : Option (Int32) :=
  o_gd (o_in (nI x1) 45) <|
  o_nm (sw_Keyword (nI x1).toNatClampNeg) fun w8 =>
  if w8 = (9:Int32) then
    if x3 = 0 then
      some (1:Int32)
    else
      some (0:Int32)
  else
  if w8 = (10:Int32) then
    if x3 ≤ 0 then
      some (0:Int32)
    else
      some (1:Int32)
  else
  if w8 = (11:Int32) then
    if x3 = (1:Int32) then
      some (1:Int32)
    else
      some (0:Int32)
  else
  if w8 = (12:Int32) then
    o_bd (m_Tx_parent x2 T0) fun q1 =>
    o_bd (m_Mk_find n q1 29 T0 Mk) fun q2 =>
    o_bd (m_Tx_parent x2 T0) fun q3 =>
    o_bd (m_Mk_find n q3 28 T0 Mk) fun q4 =>
    if q2 = (-1:Int32) then
      m_Jd_verdict_j131 n x3 q4 x3 (1:Int32) T0 Mk
    else
      o_bd (m_Tx_wholeNumber n q2 T0) fun q5 =>
      m_Jd_verdict_j131 n x3 q4 x3 q5 T0 Mk
  else
  if x4 = 0 then
    some (1:Int32)
  else
    some (0:Int32)
def m_Kw_tellsFailuresOnly (x0 : Nat) : Option (Int32) :=
  if x0 = 12 then
    some (1:Int32)
  else
    if x0 = 13 then
      some (1:Int32)
    else
      some (0:Int32)
def m_Kw_concerns (x0 : Nat) (x1 : Int32) : Option (Int32) :=
  if (kw_kind x0) = (-1:Int32) then
    some (1:Int32)
  else
    if (kw_kind x0) = x1 then
      some (1:Int32)
    else
      some (0:Int32)
def m_Jd_isOfType (n : Nat) (x1 : Int32) (x2 : Int32) (T0 : STx) (T1 : STx) : Option (Int32) :=
  o_bd (m_Tx_kind x2 T1) fun q1 =>
  if q1 = (0:Int32) then
    o_bd (m_Tx_spells n x1 2 T0) fun q2 =>
    o_gd (o_zb q2) <|
    some q2
  else
  if q1 = (1:Int32) then
    o_bd (m_Tx_spells n x1 11 T0) fun q3 =>
    o_gd (o_zb q3) <|
    some q3
  else
  if q1 = (2:Int32) then
    o_bd (m_Tx_spells n x1 11 T0) fun q4 =>
    o_gd (o_zb q4) <|
    some q4
  else
  if q1 = (3:Int32) then
    o_bd (m_Tx_spells n x1 14 T0) fun q5 =>
    if q5 = 0 then
      o_bd (m_Tx_exponent x2 T1) fun q6 =>
      if q6 < 0 then
        some (0:Int32)
      else
        o_bd (m_Tx_spells n x1 16 T0) fun q7 =>
        if q7 = 0 then
          some (0:Int32)
        else
          some (1:Int32)
    else
      some (1:Int32)
  else
  if q1 = (4:Int32) then
    o_bd (m_Tx_spells n x1 15 T0) fun q8 =>
    o_gd (o_zb q8) <|
    some q8
  else
  if q1 = (5:Int32) then
    o_bd (m_Tx_spells n x1 13 T0) fun q9 =>
    o_gd (o_zb q9) <|
    some q9
  else
  o_bd (m_Tx_spells n x1 12 T0) fun q10 =>
  o_gd (o_zb q10) <|
  some q10
def m_Jd_hasType_b31 (n : Nat) (x1 : Int32) (x2 : Int32) (T0 : STx) (T1 : STx) (z : Int32 × Int32) : Option (Nat × Int32 × Int32) :=
  o_bd (m_Tx_size x1 T0) fun q3 =>
  if q3 ≤ z.2 then
    some (2, z.1, z.2)
  else
    o_bd (m_Jd_isOfType n z.1 x2 T0 T1) fun q4 =>
    if q4 = 0 then
      o_bd (m_Tx_nextChild z.1 T0) fun q5 =>
      o_nm (z.2 + (1:Int32)) fun x4_64 =>
      some (0, q5, x4_64)
    else
      some (1, z.1, z.2)
def m_Jd_hasType (n : Nat) (x1 : Int32) (x2 : Int32) (T0 : STx) (T1 : STx) : Option (Int32) :=
  o_bd (m_Tx_kind x1 T0) fun q1 =>
  if q1 = (4:Int32) then
    o_bd (m_Jd_isOfType n x1 x2 T0 T1) fun q7 =>
    o_gd (o_zb q7) <|
    some q7
  else
    o_bd (m_Tx_firstChild x1 T0) fun q2 =>
    o_bd (o_lp n (m_Jd_hasType_b31 n x1 x2 T0 T1) (q2, (0:Int32))) fun q6 =>
    if q6.1 = 1 then
      some (1:Int32)
    else
    some (0:Int32)
def m_Tx_compare_j22 (n : Nat) (x3 : Int32) (x4 : Int32) (a0 : STx) (a2 : STx) : Option (Int32) :=
  o_bd (m_Tx_sign x3 a2) fun q3 =>
  some (x4 - q3)
def m_Tx_compare_b83 (n : Nat) (x1 : Int32) (x3 : Int32) (x4 : Int32) (a0 : STx) (a2 : STx) (z : Int32 × Int32 × Int32) : Option (Nat × Int32 × Int32 × Int32) :=
  if (60:Int32) ≤ z.1 then
    some (2, z.1, (0:Int32), (0:Int32))
  else
    o_bd (m_Tx_cell x1 z.1 a0) fun q8 =>
    o_bd (m_Tx_cell x3 z.1 a2) fun q9 =>
    if q8 = q9 then
      o_nm (z.1 + (1:Int32)) fun x7_131 =>
      some (0, x7_131, q8, q9)
    else
      some (1, z.1, q8, q9)
def m_Tx_compare (n : Nat) (x1 : Int32) (x3 : Int32) (a0 : STx) (a2 : STx) : Option (Int32) :=
  o_bd (m_Tx_sign x1 a0) fun q1 =>
  o_bd (m_Tx_sign x3 a2) fun q2 =>
  if q1 = q2 then
    if q1 = 0 then
      m_Tx_compare_j22 n x3 q1 a0 a2
    else
      o_bd (m_Tx_size x1 a0) fun q4 =>
      o_bd (m_Tx_exponent x1 a0) fun q5 =>
      o_nm (q4 + q5) fun x5_42 =>
      o_bd (m_Tx_size x3 a2) fun q6 =>
      o_bd (m_Tx_exponent x3 a2) fun q7 =>
      o_nm (q6 + q7) fun x6_55 =>
      if x5_42 = x6_55 then
        o_bd (o_lp n (m_Tx_compare_b83 n x1 x3 q1 a0 a2) ((0:Int32), (0:Int32), (0:Int32))) fun q10 =>
        if q10.1 = 1 then
          if q10.2.2.2 ≤ q10.2.2.1 then
            some q1
          else
            some (-q1)
        else
        some (0:Int32)
      else
        if x6_55 ≤ x5_42 then
          some q1
        else
          some (-q1)
  else
    m_Tx_compare_j22 n x3 q1 a0 a2
def m_Tx_same_j125 (n : Nat) (rec : Int32 → Int32 → Int32 → STx → STx → Option (Int32)) (x1 : Int32) (x3 : Int32) (x4 : Int32) (x5 : Int32) (x6 : Int32) (x7 : Int32) (x8 : Int32) (y0 : Int32) (a0 : STx) (a2 : STx) : Option (Nat × Int32 × Int32 × Int32) :=
  if y0 = (-1:Int32) then
    some (1, x6, x7, x8)
  else
    o_bd (rec x6 y0 (x4 + (1:Int32)) a0 a2) fun q9 =>
    if q9 = 0 then
      some (1, x6, x7, x8)
    else
      o_bd (m_Tx_nextChild x6 a0) fun q10 =>
      o_bd (m_Tx_nextChild x7 a2) fun q11 =>
      o_nm (x8 + (1:Int32)) fun x8_167 =>
      some (0, q10, q11, x8_167)
def m_Tx_same_b94 (n : Nat) (rec : Int32 → Int32 → Int32 → STx → STx → Option (Int32)) (x1 : Int32) (x3 : Int32) (x4 : Int32) (x5 : Int32) (a0 : STx) (a2 : STx) (z : Int32 × Int32 × Int32) : Option (Nat × Int32 × Int32 × Int32) :=
  o_bd (m_Tx_size x1 a0) fun q7 =>
  if q7 ≤ z.2.2 then
    some (2, z.1, z.2.1, z.2.2)
  else
    if x5 = (5:Int32) then
      m_Tx_same_j125 n rec x1 x3 x4 x5 z.1 z.2.1 z.2.2 z.2.1 a0 a2
    else
      o_bd (m_Tx_member n x3 (z.1 - (1:Int32)) a2 a0) fun q8 =>
      m_Tx_same_j125 n rec x1 x3 x4 x5 z.1 z.2.1 z.2.2 q8 a0 a2
def m_Tx_same_F (n : Nat) (rec : Int32 → Int32 → Int32 → STx → STx → Option (Int32)) (x1 : Int32) (x3 : Int32) (x4 : Int32) (a0 : STx) (a2 : STx) : Option (Int32) :=
  o_bd (m_Tx_kind x1 a0) fun q1 =>
  o_bd (m_Tx_kind x3 a2) fun q2 =>
  if q1 = q2 then
    if x4 ≤ (40:Int32) then
      if q1 = (3:Int32) then
        o_bd (m_Tx_compare n x1 x3 a0 a2) fun q14 =>
        if q14 = 0 then
          some (1:Int32)
        else
          some (0:Int32)
      else
        if q1 = (4:Int32) then
          o_bd (m_Tx_sameString n x1 x3 a0 a2) fun q13 =>
          o_gd (o_zb q13) <|
          some q13
        else
          o_bd (m_Tx_size x1 a0) fun q3 =>
          o_bd (m_Tx_size x3 a2) fun q4 =>
          if q3 = q4 then
            o_bd (m_Tx_firstChild x1 a0) fun q5 =>
            o_bd (m_Tx_firstChild x3 a2) fun q6 =>
            o_bd (o_lp n (m_Tx_same_b94 n rec x1 x3 x4 q1 a0 a2) (q5, q6, (0:Int32))) fun q12 =>
            if q12.1 = 1 then
              some (0:Int32)
            else
            some (1:Int32)
          else
            some (0:Int32)
    else
      some (0:Int32)
  else
    some (0:Int32)
def m_Tx_same (n : Nat) : Nat → Int32 → Int32 → Int32 → STx → STx → Option (Int32)
  | 0, _, _, _, _, _ => none
  | d + 1, v0, v1, v2, v3, v4 => m_Tx_same_F n (m_Tx_same n d) v0 v1 v2 v3 v4
def m_Jd_isOneOf_b12 (n : Nat) (x1 : Int32) (x2 : Int32) (T0 : STx) (T1 : STx) (z : Int32 × Int32) : Option (Nat × Int32 × Int32) :=
  o_bd (m_Tx_size x1 T0) fun q2 =>
  if q2 ≤ z.2 then
    some (2, z.1, z.2)
  else
    o_bd (m_Tx_same n 43 z.1 x2 (0:Int32) T0 T1) fun q3 =>
    if q3 = 0 then
      o_bd (m_Tx_nextChild z.1 T0) fun q4 =>
      o_nm (z.2 + (1:Int32)) fun x4_53 =>
      some (0, q4, x4_53)
    else
      some (1, z.1, z.2)
def m_Jd_isOneOf (n : Nat) (x1 : Int32) (x2 : Int32) (T0 : STx) (T1 : STx) : Option (Int32) :=
  o_bd (m_Tx_firstChild x1 T0) fun q1 =>
  o_bd (o_lp n (m_Jd_isOneOf_b12 n x1 x2 T0 T1) (q1, (0:Int32))) fun q5 =>
  if q5.1 = 1 then
    some (1:Int32)
  else
  some (0:Int32)
def m_JA_fill_1_b6 (n : Nat) (x1 : Int64) (x4 : Int32) (z : Int32 × (Nat → Int64)) : Option (Nat × Int32 × (Nat → Int64)) :=
  if x4 ≤ z.1 then
    some (1, z.1, z.2)
  else
    o_gd (o_in z.1 7) <|
    o_nm (z.1 + (1:Int32)) fun x3_16 =>
    some (0, x3_16, (vp_updL z.2 z.1.toNatClampNeg x1))
def m_JA_fill_1 (n : Nat) (x1 : Int64) (r0 : (Nat → Int64)) : Option ((Nat → Int64)) :=
  o_bd (o_lp n (m_JA_fill_1_b6 n x1 (7:Int32)) ((0:Int32), r0)) fun q1 =>
  some q1.2.2
def m_Ld_append_b6 (n : Nat) (z : Int64 × Int32 × (Nat → Int64)) : Option (Nat × Int64 × Int32 × (Nat → Int64)) :=
  if (7:Int32) ≤ z.2.1 then
    some (1, z.1, z.2.1, z.2.2)
  else
    o_gd (o_in z.2.1 7) <|
    o_nm (((z.2.2 z.2.1.toNatClampNeg) * (10:Int64)) + z.1) fun x5_23 =>
    o_gd (o_nz (1000000000:Int64)) <|
    o_nm (x5_23 / (1000000000:Int64)) fun x2_31 =>
    o_gd (o_nz (1000000000:Int64)) <|
    o_gd (o_in z.2.1 7) <|
    o_nm (z.2.1 + (1:Int32)) fun x4_42 =>
    some (0, x2_31, x4_42, (vp_updL z.2.2 z.2.1.toNatClampNeg (x5_23 - x5_23 / (1000000000:Int64) * (1000000000:Int64))))
def m_Ld_append (n : Nat) (x1 : Int32) (r0 : (Nat → Int64)) : Option ((Nat → Int64)) :=
  o_nm (x1.toInt64) fun x2_2 =>
  o_bd (o_lp n (m_Ld_append_b6 n) (x2_2, (0:Int32), r0)) fun q1 =>
  some q1.2.2.2
def m_Ld_restReaches_b3 (n : Nat) (Ld : SLd) (z : Int32) : Option (Nat × Int32) :=
  if z < 0 then
    some (2, z)
  else
    o_gd (o_in z 7) <|
    o_gd (o_in z 7) <|
    if (lg_cmp ((Ld_rest Ld) z.toNatClampNeg) ((Ld_divisor Ld) z.toNatClampNeg)) = 0 then
      o_nm (z + (-1:Int32)) fun x1_45 =>
      some (0, x1_45)
    else
      some (1, z)
def m_Ld_restReaches (n : Nat) (Ld : SLd) : Option (Int32) :=
  o_bd (o_lp n (m_Ld_restReaches_b3 n Ld) ((6:Int32))) fun q1 =>
  if q1.1 = 1 then
    o_gd (o_in q1.2 7) <|
    o_gd (o_in q1.2 7) <|
    if (lg_cmp ((Ld_rest Ld) q1.2.toNatClampNeg) ((Ld_divisor Ld) q1.2.toNatClampNeg)) ≤ 0 then
      some (0:Int32)
    else
      some (1:Int32)
  else
  some (1:Int32)
def m_Ld_reduce_j58 (n : Nat) (x1 : Int32) (x4 : Int32) (x5 : Int64) (y0 : Int64) (Ld : SLd) : Option (Nat × Int64 × Int32 × SLd) :=
  if 0 ≤ (lg_cmp x5 (0:Int64)) then
    o_gd (o_in x4 7) <|
    o_nm (x4 + (1:Int32)) fun x4_84 =>
    some (0, y0, x4_84, (Ld_mk (Ld_divisor Ld) (vp_updL (Ld_rest Ld) x4.toNatClampNeg x5)))
  else
    o_gd (o_in x4 7) <|
    o_nm (x4 + (1:Int32)) fun x4_84 =>
    some (0, y0, x4_84, (Ld_mk (Ld_divisor Ld) (vp_updL (Ld_rest Ld) x4.toNatClampNeg (x5 + (1000000000:Int64)))))
def m_Ld_reduce_b20 (n : Nat) (x1 : Int32) (z : Int64 × Int32 × SLd) : Option (Nat × Int64 × Int32 × SLd) :=
  if (7:Int32) ≤ z.2.1 then
    some (1, z.1, z.2.1, z.2.2)
  else
    o_gd (o_in z.2.1 7) <|
    o_gd (o_in z.2.1 7) <|
    o_nm ((((Ld_rest z.2.2) z.2.1.toNatClampNeg) - ((Ld_divisor z.2.2) z.2.1.toNatClampNeg)) - z.1) fun x5_44 =>
    if 0 ≤ (lg_cmp x5_44 (0:Int64)) then
      m_Ld_reduce_j58 n x1 z.2.1 x5_44 (0:Int64) z.2.2
    else
      m_Ld_reduce_j58 n x1 z.2.1 x5_44 (1:Int64) z.2.2
def m_Ld_reduce_b2 (n : Nat) (z : Int32 × SLd) : Option (Nat × Int32 × SLd) :=
  if (10:Int32) ≤ z.1 then
    some (1, z.1, z.2)
  else
    o_bd (m_Ld_restReaches n z.2) fun q1 =>
    if q1 = 0 then
      some (1, z.1, z.2)
    else
      o_bd (o_lp n (m_Ld_reduce_b20 n z.1) ((0:Int64), (0:Int32), z.2)) fun q2 =>
      o_nm (z.1 + (1:Int32)) fun x1_90 =>
      some (0, x1_90, q2.2.2.2)
def m_Ld_reduce (n : Nat) (Ld : SLd) : Option (SLd) :=
  o_bd (o_lp n (m_Ld_reduce_b2 n) ((0:Int32), Ld)) fun q3 =>
  some q3.2.2
def m_Ld_isZero_b2 (n : Nat) (Ld : SLd) (z : Int32) : Option (Nat × Int32) :=
  if (7:Int32) ≤ z then
    some (2, z)
  else
    o_gd (o_in z 7) <|
    if (lg_cmp ((Ld_rest Ld) z.toNatClampNeg) (0:Int64)) = 0 then
      o_nm (z + (1:Int32)) fun x1_21 =>
      some (0, x1_21)
    else
      some (1, z)
def m_Ld_isZero (n : Nat) (Ld : SLd) : Option (Int32) :=
  o_bd (o_lp n (m_Ld_isZero_b2 n Ld) ((0:Int32))) fun q1 =>
  if q1.1 = 1 then
    some (0:Int32)
  else
  some (1:Int32)
def m_Ld_divides_b43 (n : Nat) (x2 : Int32) (x4 : Int32) (x5 : Int32) (a1 : STx) (a3 : STx) (z : Int32 × SLd) : Option (Nat × Int32 × SLd) :=
  o_bd (m_Tx_size x2 a1) fun q5 =>
  if q5 ≤ z.1 then
    some (1, z.1, z.2)
  else
    o_bd (m_Tx_cell x2 z.1 a1) fun q6 =>
    o_bd (m_Ld_append n q6 (Ld_divisor z.2)) fun q7 =>
    o_nm (z.1 + (1:Int32)) fun x6_67 =>
    some (0, x6_67, (Ld_mk q7 (Ld_rest z.2)))
def m_Ld_divides_b101 (n : Nat) (x4 : Int32) (x6 : Int32) (a1 : STx) (a3 : STx) (z : Int32 × SLd) : Option (Nat × Int32 × SLd) :=
  if x6 ≤ z.1 then
    some (1, z.1, z.2)
  else
    o_bd (m_Tx_cell x4 z.1 a3) fun q11 =>
    o_bd (m_Ld_append n q11 (Ld_rest z.2)) fun q12 =>
    o_bd (m_Ld_reduce n (Ld_mk (Ld_divisor z.2) q12)) fun q13 =>
    o_nm (z.1 + (1:Int32)) fun x7_127 =>
    some (0, x7_127, q13)
def m_Ld_divides (n : Nat) (x2 : Int32) (x4 : Int32) (a1 : STx) (a3 : STx) (Ld : SLd) : Option (Int32 × SLd) :=
  o_bd (m_Tx_exponent x4 a3) fun q1 =>
  o_bd (m_Tx_exponent x2 a1) fun q2 =>
  o_nm (q1 - q2) fun x5_12 =>
  o_bd (m_Tx_size x4 a3) fun q3 =>
  if q3 = 0 then
    some ((1:Int32), Ld)
  else
    if 0 ≤ x5_12 then
      o_bd (m_JA_fill_1 n (0:Int64) (Ld_divisor Ld)) fun q4 =>
      o_bd (o_lp n (m_Ld_divides_b43 n x2 x4 x5_12 a1 a3) ((0:Int32), (Ld_mk q4 (Ld_rest Ld)))) fun q8 =>
      o_bd (m_JA_fill_1 n (0:Int64) (Ld_rest q8.2.2)) fun q9 =>
      o_bd (m_Tx_size x4 a3) fun q10 =>
      o_nm (q10 + (if (200:Int32) < x5_12 then (200:Int32) else x5_12)) fun x6_96 =>
      o_bd (o_lp n (m_Ld_divides_b101 n x4 x6_96 a1 a3) ((0:Int32), (Ld_mk (Ld_divisor q8.2.2) q9))) fun q14 =>
      o_bd (m_Ld_isZero n q14.2.2) fun q15 =>
      o_gd (o_zb q15) <|
      some (q15, q14.2.2)
    else
      some ((0:Int32), Ld)
def m_Jd_allDiffer_b38 (n : Nat) (x1 : Int32) (x2 : Int32) (x3 : Int32) (T1 : STx) (z : Int32 × Int32) : Option (Nat × Int32 × Int32) :=
  o_bd (m_Tx_size x1 T1) fun q4 =>
  if q4 ≤ z.2 then
    some (2, z.1, z.2)
  else
    o_bd (m_Tx_same n 43 x2 z.1 (0:Int32) T1 T1) fun q5 =>
    if q5 = 0 then
      o_bd (m_Tx_nextChild z.1 T1) fun q6 =>
      o_nm (z.2 + (1:Int32)) fun x5_82 =>
      some (0, q6, x5_82)
    else
      some (1, z.1, z.2)
def m_Jd_allDiffer_b11 (n : Nat) (x1 : Int32) (T1 : STx) (z : Int32 × Int32) : Option (Nat × Int32 × Int32) :=
  o_bd (m_Tx_size x1 T1) fun q2 =>
  if q2 ≤ z.2 then
    some (2, z.1, z.2)
  else
    o_bd (m_Tx_nextChild z.1 T1) fun q3 =>
    o_nm (z.2 + (1:Int32)) fun x5_36 =>
    o_bd (o_lp n (m_Jd_allDiffer_b38 n x1 z.1 z.2 T1) (q3, x5_36)) fun q7 =>
    if q7.1 = 1 then
      some (1, z.1, z.2)
    else
    o_bd (m_Tx_nextChild z.1 T1) fun q8 =>
    o_nm (z.2 + (1:Int32)) fun x3_97 =>
    some (0, q8, x3_97)
def m_Jd_allDiffer (n : Nat) (x1 : Int32) (T1 : STx) : Option (Int32) :=
  o_bd (m_Tx_firstChild x1 T1) fun q1 =>
  o_bd (o_lp n (m_Jd_allDiffer_b11 n x1 T1) (q1, (0:Int32))) fun q9 =>
  if q9.1 = 1 then
    some (0:Int32)
  else
  some (1:Int32)
def m_Jd_hasAll_b12 (n : Nat) (x1 : Int32) (x2 : Int32) (T0 : STx) (T1 : STx) (z : Int32 × Int32) : Option (Nat × Int32 × Int32) :=
  o_bd (m_Tx_size x1 T0) fun q2 =>
  if q2 ≤ z.2 then
    some (2, z.1, z.2)
  else
    o_bd (m_Tx_member n x2 z.1 T1 T0) fun q3 =>
    if q3 = (-1:Int32) then
      some (1, z.1, z.2)
    else
      o_bd (m_Tx_nextChild z.1 T0) fun q4 =>
      o_nm (z.2 + (1:Int32)) fun x4_53 =>
      some (0, q4, x4_53)
def m_Jd_hasAll (n : Nat) (x1 : Int32) (x2 : Int32) (T0 : STx) (T1 : STx) : Option (Int32) :=
  o_bd (m_Tx_firstChild x1 T0) fun q1 =>
  o_bd (o_lp n (m_Jd_hasAll_b12 n x1 x2 T0 T1) (q1, (0:Int32))) fun q5 =>
  if q5.1 = 1 then
    some (0:Int32)
  else
  some (1:Int32)
def m_Jd_hasDependents_j55 (n : Nat) (x1 : Int32) (x2 : Int32) (x3 : Int32) (x4 : Int32) (T0 : STx) (T1 : STx) : Option (Nat × Int32 × Int32) :=
  o_bd (m_Tx_nextChild x3 T0) fun q4 =>
  o_nm (x4 + (1:Int32)) fun x4_64 =>
  some (0, q4, x4_64)
def m_Jd_hasDependents_b12 (n : Nat) (x1 : Int32) (x2 : Int32) (T0 : STx) (T1 : STx) (z : Int32 × Int32) : Option (Nat × Int32 × Int32) :=
  o_bd (m_Tx_size x1 T0) fun q2 =>
  if q2 ≤ z.2 then
    some (2, z.1, z.2)
  else
    o_bd (m_Tx_member n x2 (z.1 - (1:Int32)) T1 T0) fun q3 =>
    if q3 = (-1:Int32) then
      m_Jd_hasDependents_j55 n x1 x2 z.1 z.2 T0 T1
    else
      o_bd (m_Jd_hasAll n z.1 x2 T0 T1) fun q5 =>
      if q5 = 0 then
        some (1, z.1, z.2)
      else
        m_Jd_hasDependents_j55 n x1 x2 z.1 z.2 T0 T1
def m_Jd_hasDependents (n : Nat) (x1 : Int32) (x2 : Int32) (T0 : STx) (T1 : STx) : Option (Int32) :=
  o_bd (m_Tx_firstChild x1 T0) fun q1 =>
  o_bd (o_lp n (m_Jd_hasDependents_b12 n x1 x2 T0 T1) (q1, (0:Int32))) fun q6 =>
  if q6.1 = 1 then
    some (0:Int32)
  else
  some (1:Int32)
def m_Jd_asserts (n : Nat) (x1 : Nat) (x2 : Int32) (x3 : Int32) (T0 : STx) (T1 : STx) (Pg : SPg) (Pt : SPt) (Ld : SLd) : Option (Int32 × SPg × SPt × SLd) :=
  o_gd (o_in (nI x1) 45) <|
  o_nm (sw_Keyword (nI x1).toNatClampNeg) fun w8 =>
  if w8 = (13:Int32) then
    o_bd (m_Jd_hasType n x2 x3 T0 T1) fun q1 =>
    o_gd (o_zb q1) <|
    some (q1, Pg, Pt, Ld)
  else
  if w8 = (14:Int32) then
    o_bd (m_Jd_isOneOf n x2 x3 T0 T1) fun q2 =>
    o_gd (o_zb q2) <|
    some (q2, Pg, Pt, Ld)
  else
  if w8 = (15:Int32) then
    o_bd (m_Tx_same n 43 x2 x3 (0:Int32) T0 T1) fun q3 =>
    o_gd (o_zb q3) <|
    some (q3, Pg, Pt, Ld)
  else
  if w8 = (16:Int32) then
    o_bd (m_Ld_divides n x2 x3 T0 T1 Ld) fun q4 =>
    o_gd (o_zb q4.1) <|
    some (q4.1, Pg, Pt, q4.2)
  else
  if w8 = (17:Int32) then
    o_bd (m_Tx_compare n x3 x2 T1 T0) fun q5 =>
    if 0 < q5 then
      some ((0:Int32), Pg, Pt, Ld)
    else
      some ((1:Int32), Pg, Pt, Ld)
  else
  if w8 = (18:Int32) then
    o_bd (m_Tx_compare n x3 x2 T1 T0) fun q6 =>
    if 0 ≤ q6 then
      some ((0:Int32), Pg, Pt, Ld)
    else
      some ((1:Int32), Pg, Pt, Ld)
  else
  if w8 = (19:Int32) then
    o_bd (m_Tx_compare n x3 x2 T1 T0) fun q7 =>
    if q7 < 0 then
      some ((0:Int32), Pg, Pt, Ld)
    else
      some ((1:Int32), Pg, Pt, Ld)
  else
  if w8 = (20:Int32) then
    o_bd (m_Tx_compare n x3 x2 T1 T0) fun q8 =>
    if q8 ≤ 0 then
      some ((0:Int32), Pg, Pt, Ld)
    else
      some ((1:Int32), Pg, Pt, Ld)
  else
  if w8 = (21:Int32) then
    o_bd (m_Tx_size x3 T1) fun q9 =>
    o_bd (m_Tx_wholeNumber n x2 T0) fun q10 =>
    if q10 < q9 then
      some ((0:Int32), Pg, Pt, Ld)
    else
      some ((1:Int32), Pg, Pt, Ld)
  else
  if w8 = (22:Int32) then
    o_bd (m_Tx_size x3 T1) fun q11 =>
    o_bd (m_Tx_wholeNumber n x2 T0) fun q12 =>
    if q12 < q11 then
      some ((0:Int32), Pg, Pt, Ld)
    else
      some ((1:Int32), Pg, Pt, Ld)
  else
  if w8 = (23:Int32) then
    o_bd (m_Tx_size x3 T1) fun q13 =>
    o_bd (m_Tx_wholeNumber n x2 T0) fun q14 =>
    if q14 < q13 then
      some ((0:Int32), Pg, Pt, Ld)
    else
      some ((1:Int32), Pg, Pt, Ld)
  else
  if w8 = (24:Int32) then
    o_bd (m_Tx_size x3 T1) fun q15 =>
    o_bd (m_Tx_wholeNumber n x2 T0) fun q16 =>
    if q15 < q16 then
      some ((0:Int32), Pg, Pt, Ld)
    else
      some ((1:Int32), Pg, Pt, Ld)
  else
  if w8 = (25:Int32) then
    o_bd (m_Tx_size x3 T1) fun q17 =>
    o_bd (m_Tx_wholeNumber n x2 T0) fun q18 =>
    if q17 < q18 then
      some ((0:Int32), Pg, Pt, Ld)
    else
      some ((1:Int32), Pg, Pt, Ld)
  else
  if w8 = (26:Int32) then
    o_bd (m_Tx_size x3 T1) fun q19 =>
    o_bd (m_Tx_wholeNumber n x2 T0) fun q20 =>
    if q19 < q20 then
      some ((0:Int32), Pg, Pt, Ld)
    else
      some ((1:Int32), Pg, Pt, Ld)
  else
  if w8 = (27:Int32) then
    o_bd (m_Pt_tokenise n x2 T0 Pt) fun q21 =>
    if q21.1 = 0 then
      some ((0:Int32), Pg, q21.2, Ld)
    else
      o_bd (m_Pt_parse n Pg q21.2) fun q22 =>
      if q22.1 = 0 then
        some ((0:Int32), q22.2.1, q22.2.2, Ld)
      else
        o_bd (m_Pg_finds n x3 T1 q22.2.1) fun q23 =>
        if q23.1 = 0 then
          some ((0:Int32), q23.2, q22.2.2, Ld)
        else
          some ((1:Int32), q23.2, q22.2.2, Ld)
  else
  if w8 = (28:Int32) then
    o_bd (m_Tx_kind x2 T0) fun q24 =>
    if q24 = (1:Int32) then
      some ((1:Int32), Pg, Pt, Ld)
    else
      o_bd (m_Jd_allDiffer n x3 T1) fun q25 =>
      if q25 = 0 then
        some ((0:Int32), Pg, Pt, Ld)
      else
        some ((1:Int32), Pg, Pt, Ld)
  else
  if w8 = (29:Int32) then
    o_bd (m_Jd_hasAll n x2 x3 T0 T1) fun q26 =>
    o_gd (o_zb q26) <|
    some (q26, Pg, Pt, Ld)
  else
  if w8 = (30:Int32) then
    o_bd (m_Jd_hasDependents n x2 x3 T0 T1) fun q27 =>
    o_gd (o_zb q27) <|
    some (q27, Pg, Pt, Ld)
  else
  some ((1:Int32), Pg, Pt, Ld)
def m_Jd_apply_j231 (n : Nat) (rec : Int32 → Int32 → Int32 → STx → STx → SPg → SPt → SMk → SLd → SPr → SJd → Option (Int32 × SPg × SPt × SLd × SPr × SJd)) (x1 : Nat) (x2 : Int32) (x3 : Int32) (x4 : Int32) (x5 : Int32) (x6 : Int32) (x7 : Int32) (x8 : Int32) (x9 : Int32) (x10 : Int32) (x11 : Int64) (x13 : Int32) (x14 : Int32) (x15 : Int32) (T0 : STx) (T1 : STx) (Pg : SPg) (Pt : SPt) (Mk : SMk) (Ld : SLd) (Pr : SPr) (Jd : SJd) : Option (Nat × Int32 × Int32 × Int32 × Int32 × SPg × SPt × SLd × SPr × SJd) :=
  o_bd (m_Tx_nextChild x13 T1) fun q7 =>
  o_nm (x15 + (1:Int32)) fun x15_242 =>
  some (0, x6, x7, q7, x15_242, Pg, Pt, Ld, Pr, Jd)
def m_Jd_apply_j210 (n : Nat) (rec : Int32 → Int32 → Int32 → STx → STx → SPg → SPt → SMk → SLd → SPr → SJd → Option (Int32 × SPg × SPt × SLd × SPr × SJd)) (x1 : Nat) (x2 : Int32) (x3 : Int32) (x4 : Int32) (x5 : Int32) (x6 : Int32) (x8 : Int32) (x9 : Int32) (x10 : Int32) (x11 : Int64) (x13 : Int32) (x14 : Int32) (x15 : Int32) (x16 : Int32) (y0 : Int32) (y1 : Int32) (T0 : STx) (T1 : STx) (Pg : SPg) (Pt : SPt) (Mk : SMk) (Ld : SLd) (Pr : SPr) (Jd : SJd) : Option (Nat × Int32 × Int32 × Int32 × Int32 × SPg × SPt × SLd × SPr × SJd) :=
  o_nm (y0 + y1) fun x7_211 =>
  o_bd (m_Tx_slot x13 T1) fun q9 =>
  o_bd (m_Jd_remember x1 x16 q9 x4 Jd) fun q10 =>
  m_Jd_apply_j231 n rec x1 x2 x3 x4 x5 x6 x7_211 x8 x9 x10 x11 x13 x14 x15 T0 T1 Pg Pt Mk Ld Pr q10
def m_Jd_apply_j195 (n : Nat) (rec : Int32 → Int32 → Int32 → STx → STx → SPg → SPt → SMk → SLd → SPr → SJd → Option (Int32 × SPg × SPt × SLd × SPr × SJd)) (x1 : Nat) (x2 : Int32) (x3 : Int32) (x4 : Int32) (x5 : Int32) (x7 : Int32) (x8 : Int32) (x9 : Int32) (x10 : Int32) (x11 : Int64) (x13 : Int32) (x14 : Int32) (x15 : Int32) (x16 : Int32) (y0 : Int32) (y1 : Int32) (T0 : STx) (T1 : STx) (Pg : SPg) (Pt : SPt) (Mk : SMk) (Ld : SLd) (Pr : SPr) (Jd : SJd) : Option (Nat × Int32 × Int32 × Int32 × Int32 × SPg × SPt × SLd × SPr × SJd) :=
  o_nm (y0 + y1) fun x6_196 =>
  if x16 = 0 then
    m_Jd_apply_j210 n rec x1 x2 x3 x4 x5 x6_196 x8 x9 x10 x11 x13 x14 x15 x16 x7 (1:Int32) T0 T1 Pg Pt Mk Ld Pr Jd
  else
    m_Jd_apply_j210 n rec x1 x2 x3 x4 x5 x6_196 x8 x9 x10 x11 x13 x14 x15 x16 x7 (0:Int32) T0 T1 Pg Pt Mk Ld Pr Jd
def m_Jd_apply_j174 (n : Nat) (rec : Int32 → Int32 → Int32 → STx → STx → SPg → SPt → SMk → SLd → SPr → SJd → Option (Int32 × SPg × SPt × SLd × SPr × SJd)) (x1 : Nat) (x2 : Int32) (x3 : Int32) (x4 : Int32) (x5 : Int32) (x6 : Int32) (x7 : Int32) (x8 : Int32) (x9 : Int32) (x10 : Int32) (x11 : Int64) (x13 : Int32) (x14 : Int32) (x15 : Int32) (y1 : Int32) (y2 : Int32) (T0 : STx) (T1 : STx) (Pg : SPg) (Pt : SPt) (Mk : SMk) (Ld : SLd) (Pr : SPr) (Jd : SJd) : Option (Nat × Int32 × Int32 × Int32 × Int32 × SPg × SPt × SLd × SPr × SJd) :=
  o_bd (rec y1 y2 (x4 + (1:Int32)) T0 T1 Pg Pt Mk Ld Pr Jd) fun q8 =>
  if q8.1 = 0 then
    m_Jd_apply_j195 n rec x1 x2 x3 x4 x5 x7 x8 x9 x10 x11 x13 x14 x15 q8.1 x6 (0:Int32) T0 T1 q8.2.1 q8.2.2.1 Mk q8.2.2.2.1 q8.2.2.2.2.1 q8.2.2.2.2.2
  else
    m_Jd_apply_j195 n rec x1 x2 x3 x4 x5 x7 x8 x9 x10 x11 x13 x14 x15 q8.1 x6 (1:Int32) T0 T1 q8.2.1 q8.2.2.1 Mk q8.2.2.2.1 q8.2.2.2.2.1 q8.2.2.2.2.2
def m_Jd_apply_b123 (n : Nat) (rec : Int32 → Int32 → Int32 → STx → STx → SPg → SPt → SMk → SLd → SPr → SJd → Option (Int32 × SPg × SPt × SLd × SPr × SJd)) (x1 : Nat) (x2 : Int32) (x3 : Int32) (x4 : Int32) (x5 : Int32) (x8 : Int32) (x9 : Int32) (x10 : Int32) (x11 : Int64) (x14 : Int32) (T0 : STx) (T1 : STx) (Mk : SMk) (z : Int32 × Int32 × Int32 × Int32 × SPg × SPt × SLd × SPr × SJd) : Option (Nat × Int32 × Int32 × Int32 × Int32 × SPg × SPt × SLd × SPr × SJd) :=
  if x14 ≤ z.2.2.2.1 then
    some (1, z.1, z.2.1, z.2.2.1, z.2.2.2.1, z.2.2.2.2.1, z.2.2.2.2.2.1, z.2.2.2.2.2.2.1, z.2.2.2.2.2.2.2.1, z.2.2.2.2.2.2.2.2)
  else
    if z.2.2.1 = (-1:Int32) then
      some (1, z.1, z.2.1, z.2.2.1, z.2.2.2.1, z.2.2.2.2.1, z.2.2.2.2.2.1, z.2.2.2.2.2.2.1, z.2.2.2.2.2.2.2.1, z.2.2.2.2.2.2.2.2)
    else
      if (Jd_over z.2.2.2.2.2.2.2.2) = 0 then
        if (lg_cmp ((x11 >>> (z.2.2.2.1.toInt64 &&& 63)) &&& (1:Int64)) (0:Int64)) = 0 then
          if x1 = 8 then
            m_Jd_apply_j174 n rec x1 x2 x3 x4 x5 z.1 z.2.1 x8 x9 x10 x11 z.2.2.1 x14 z.2.2.2.1 x9 (z.2.2.1 - (1:Int32)) T0 T1 z.2.2.2.2.1 z.2.2.2.2.2.1 Mk z.2.2.2.2.2.2.1 z.2.2.2.2.2.2.2.1 z.2.2.2.2.2.2.2.2
          else
            m_Jd_apply_j174 n rec x1 x2 x3 x4 x5 z.1 z.2.1 x8 x9 x10 x11 z.2.2.1 x14 z.2.2.2.1 x9 z.2.2.1 T0 T1 z.2.2.2.2.1 z.2.2.2.2.2.1 Mk z.2.2.2.2.2.2.1 z.2.2.2.2.2.2.2.1 z.2.2.2.2.2.2.2.2
        else
          m_Jd_apply_j231 n rec x1 x2 x3 x4 x5 z.1 z.2.1 x8 x9 x10 x11 z.2.2.1 x14 z.2.2.2.1 T0 T1 z.2.2.2.2.1 z.2.2.2.2.2.1 Mk z.2.2.2.2.2.2.1 z.2.2.2.2.2.2.2.1 z.2.2.2.2.2.2.2.2
      else
        some (1, z.1, z.2.1, z.2.2.1, z.2.2.2.1, z.2.2.2.2.1, z.2.2.2.2.2.1, z.2.2.2.2.2.2.1, z.2.2.2.2.2.2.2.1, z.2.2.2.2.2.2.2.2)
def m_Jd_apply_j248 (n : Nat) (rec : Int32 → Int32 → Int32 → STx → STx → SPg → SPt → SMk → SLd → SPr → SJd → Option (Int32 × SPg × SPt × SLd × SPr × SJd)) (x1 : Nat) (x2 : Int32) (x3 : Int32) (x4 : Int32) (x5 : Int32) (x6 : Int32) (x7 : Int32) (x8 : Int32) (x9 : Int32) (x10 : Int32) (T0 : STx) (T1 : STx) (Pg : SPg) (Pt : SPt) (Mk : SMk) (Ld : SLd) (Pr : SPr) (Jd : SJd) : Option (Nat × Int32 × Int32 × Int32 × Int32 × SPg × SPt × SLd × SPr × SJd) :=
  o_bd (m_Tx_nextChild x9 T0) fun q12 =>
  o_nm (x10 + (1:Int32)) fun x10_259 =>
  some (0, x6, x7, q12, x10_259, Pg, Pt, Ld, Pr, Jd)
def m_Jd_apply_b61 (n : Nat) (rec : Int32 → Int32 → Int32 → STx → STx → SPg → SPt → SMk → SLd → SPr → SJd → Option (Int32 × SPg × SPt × SLd × SPr × SJd)) (x1 : Nat) (x2 : Int32) (x3 : Int32) (x4 : Int32) (x5 : Int32) (x8 : Int32) (T0 : STx) (T1 : STx) (Mk : SMk) (z : Int32 × Int32 × Int32 × Int32 × SPg × SPt × SLd × SPr × SJd) : Option (Nat × Int32 × Int32 × Int32 × Int32 × SPg × SPt × SLd × SPr × SJd) :=
  if x8 ≤ z.2.2.2.1 then
    some (1, z.1, z.2.1, z.2.2.1, z.2.2.2.1, z.2.2.2.2.1, z.2.2.2.2.2.1, z.2.2.2.2.2.2.1, z.2.2.2.2.2.2.2.1, z.2.2.2.2.2.2.2.2)
  else
    if (Jd_over z.2.2.2.2.2.2.2.2) = 0 then
      o_bd (m_Jd_skipped n x1 x2 z.2.2.1 x3 x4 T0 T1 z.2.2.2.2.1 z.2.2.2.2.2.1 Mk z.2.2.2.2.2.2.2.2) fun q5 =>
      o_bd (m_Jd_firstTarget n x1 z.2.2.1 x3 T0 T1) fun q6 =>
      if (kw_reach x1) = (4:Int32) then
        o_bd (m_Tx_size x3 T1) fun q13 =>
        o_bd (o_lp n (m_Jd_apply_b123 n rec x1 x2 x3 x4 x5 x8 z.2.2.1 z.2.2.2.1 q5.1 q13 T0 T1 Mk) (z.1, z.2.1, q6, (0:Int32), q5.2.1, q5.2.2, z.2.2.2.2.2.2.1, z.2.2.2.2.2.2.2.1, z.2.2.2.2.2.2.2.2)) fun q14 =>
        m_Jd_apply_j248 n rec x1 x2 x3 x4 x5 q14.2.1 q14.2.2.1 x8 z.2.2.1 z.2.2.2.1 T0 T1 q14.2.2.2.2.2.1 q14.2.2.2.2.2.2.1 Mk q14.2.2.2.2.2.2.2.1 q14.2.2.2.2.2.2.2.2.1 q14.2.2.2.2.2.2.2.2.2
      else
        o_bd (o_lp n (m_Jd_apply_b123 n rec x1 x2 x3 x4 x5 x8 z.2.2.1 z.2.2.2.1 q5.1 (1:Int32) T0 T1 Mk) (z.1, z.2.1, q6, (0:Int32), q5.2.1, q5.2.2, z.2.2.2.2.2.2.1, z.2.2.2.2.2.2.2.1, z.2.2.2.2.2.2.2.2)) fun q11 =>
        m_Jd_apply_j248 n rec x1 x2 x3 x4 x5 q11.2.1 q11.2.2.1 x8 z.2.2.1 z.2.2.2.1 T0 T1 q11.2.2.2.2.2.1 q11.2.2.2.2.2.2.1 Mk q11.2.2.2.2.2.2.2.1 q11.2.2.2.2.2.2.2.2.1 q11.2.2.2.2.2.2.2.2.2
    else
      some (1, z.1, z.2.1, z.2.2.1, z.2.2.2.1, z.2.2.2.2.1, z.2.2.2.2.2.1, z.2.2.2.2.2.2.1, z.2.2.2.2.2.2.2.1, z.2.2.2.2.2.2.2.2)
def m_Jd_apply_j282 (n : Nat) (rec : Int32 → Int32 → Int32 → STx → STx → SPg → SPt → SMk → SLd → SPr → SJd → Option (Int32 × SPg × SPt × SLd × SPr × SJd)) (x1 : Nat) (x2 : Int32) (x5 : Int32) (x6 : Int32) (x7 : Int32) (y1 : Int32) (y2 : Int32) (T0 : STx) (T1 : STx) (Pg : SPg) (Pt : SPt) (Mk : SMk) (Ld : SLd) (Pr : SPr) (Jd : SJd) : Option (Int32 × SPg × SPt × SLd × SPr × SJd) :=
  o_bd (m_Jd_verdict n x1 x2 x6 x7 T0 Mk) fun q17 =>
  if q17 = 0 then
    o_gd (o_zb q17) <|
    some (q17, Pg, Pt, Ld, Pr, (Jd_mk (Jd_evaluated Jd) (y1 - y2) (Jd_over Jd) (Jd_schemas Jd) (Jd_deepest Jd)))
  else
    o_bd (m_Kw_tellsFailuresOnly x1) fun q18 =>
    if q18 = 0 then
      o_gd (o_zb q17) <|
      some (q17, Pg, Pt, Ld, Pr, (Jd_mk (Jd_evaluated Jd) (y1 - y2) (Jd_over Jd) (Jd_schemas Jd) (Jd_deepest Jd)))
    else
      o_bd (m_Pr_cut x5 Pr) fun q19 =>
      o_gd (o_zb q17) <|
      some (q17, Pg, Pt, Ld, q19, (Jd_mk (Jd_evaluated Jd) (y1 - y2) (Jd_over Jd) (Jd_schemas Jd) (Jd_deepest Jd)))
def m_Jd_apply_j265 (n : Nat) (rec : Int32 → Int32 → Int32 → STx → STx → SPg → SPt → SMk → SLd → SPr → SJd → Option (Int32 × SPg × SPt × SLd × SPr × SJd)) (x1 : Nat) (x2 : Int32) (x5 : Int32) (x6 : Int32) (x7 : Int32) (T0 : STx) (T1 : STx) (Pg : SPg) (Pt : SPt) (Mk : SMk) (Ld : SLd) (Pr : SPr) (Jd : SJd) : Option (Int32 × SPg × SPt × SLd × SPr × SJd) :=
  o_bd (m_Kw_isSilent x1) fun q16 =>
  if q16 = 0 then
    m_Jd_apply_j282 n rec x1 x2 x5 x6 x7 (Jd_silences Jd) (0:Int32) T0 T1 Pg Pt Mk Ld Pr Jd
  else
    m_Jd_apply_j282 n rec x1 x2 x5 x6 x7 (Jd_silences Jd) (1:Int32) T0 T1 Pg Pt Mk Ld Pr Jd
def m_Jd_apply_j32 (n : Nat) (rec : Int32 → Int32 → Int32 → STx → STx → SPg → SPt → SMk → SLd → SPr → SJd → Option (Int32 × SPg × SPt × SLd × SPr × SJd)) (x1 : Nat) (x2 : Int32) (x3 : Int32) (x4 : Int32) (x5 : Int32) (x6 : Int32) (x7 : Int32) (y1 : Int32) (y2 : Int32) (T0 : STx) (T1 : STx) (Pg : SPg) (Pt : SPt) (Mk : SMk) (Ld : SLd) (Pr : SPr) (Jd : SJd) : Option (Int32 × SPg × SPt × SLd × SPr × SJd) :=
  o_bd (m_Mk_schemaCount x1 x2 T0) fun q3 =>
  o_bd (m_Mk_firstSchema x1 x2 T0 Mk) fun q4 =>
  o_bd (o_lp n (m_Jd_apply_b61 n rec x1 x2 x3 x4 x5 q3 T0 T1 Mk) (x6, x7, q4, (0:Int32), Pg, Pt, Ld, Pr, (Jd_mk (Jd_evaluated Jd) (y1 + y2) (Jd_over Jd) (Jd_schemas Jd) (Jd_deepest Jd)))) fun q15 =>
  m_Jd_apply_j265 n rec x1 x2 x5 q15.2.1 q15.2.2.1 T0 T1 q15.2.2.2.2.2.1 q15.2.2.2.2.2.2.1 Mk q15.2.2.2.2.2.2.2.1 q15.2.2.2.2.2.2.2.2.1 q15.2.2.2.2.2.2.2.2.2
def m_Jd_apply (n : Nat) (rec : Int32 → Int32 → Int32 → STx → STx → SPg → SPt → SMk → SLd → SPr → SJd → Option (Int32 × SPg × SPt × SLd × SPr × SJd)) (x1 : Nat) (x2 : Int32) (x3 : Int32) (x4 : Int32) (T0 : STx) (T1 : STx) (Pg : SPg) (Pt : SPt) (Mk : SMk) (Ld : SLd) (Pr : SPr) (Jd : SJd) : Option (Int32 × SPg × SPt × SLd × SPr × SJd) :=
  o_bd (m_Pr_size Pr) fun q1 =>
  o_bd (m_Kw_isSilent x1) fun q2 =>
  if q2 = 0 then
    m_Jd_apply_j32 n rec x1 x2 x3 x4 q1 (0:Int32) (0:Int32) (Jd_silences Jd) (0:Int32) T0 T1 Pg Pt Mk Ld Pr Jd
  else
    m_Jd_apply_j32 n rec x1 x2 x3 x4 q1 (0:Int32) (0:Int32) (Jd_silences Jd) (1:Int32) T0 T1 Pg Pt Mk Ld Pr Jd
def m_Jd_evaluate_j252 (n : Nat) (rec : Int32 → Int32 → Int32 → STx → STx → SPg → SPt → SMk → SLd → SPr → SJd → Option (Int32 × SPg × SPt × SLd × SPr × SJd)) (x1 : Int32) (x2 : Int32) (x3 : Int32) (x4 : Int32) (x5 : Int32) (x6 : Int32) (x7 : Int32) (x8 : Int32) (y0 : Int32) (T0 : STx) (T1 : STx) (Pg : SPg) (Pt : SPt) (Mk : SMk) (Ld : SLd) (Pr : SPr) (Jd : SJd) : Option (Nat × Int32 × Int32 × Int32 × SPg × SPt × SLd × SPr × SJd) :=
  if y0 = 0 then
    o_bd (m_Jd_tell n x2 x8 Pr Jd) fun q11 =>
    o_nm (x7 + (1:Int32)) fun x7_269 =>
    some (0, (0:Int32), x6, x7_269, Pg, Pt, Ld, q11, Jd)
  else
    o_nm (x7 + (1:Int32)) fun x7_269 =>
    some (0, x4, x6, x7_269, Pg, Pt, Ld, Pr, Jd)
def m_Jd_evaluate_j194 (n : Nat) (rec : Int32 → Int32 → Int32 → STx → STx → SPg → SPt → SMk → SLd → SPr → SJd → Option (Int32 × SPg × SPt × SLd × SPr × SJd)) (x1 : Int32) (x2 : Int32) (x3 : Int32) (x4 : Int32) (x5 : Int32) (x6 : Int32) (x7 : Int32) (x8 : Int32) (x9 : Nat) (T0 : STx) (T1 : STx) (Pg : SPg) (Pt : SPt) (Mk : SMk) (Ld : SLd) (Pr : SPr) (Jd : SJd) : Option (Nat × Int32 × Int32 × Int32 × SPg × SPt × SLd × SPr × SJd) :=
  if (kw_reach x9) = 0 then
    o_nm (x7 + (1:Int32)) fun x7_269 =>
    some (0, x4, x6, x7_269, Pg, Pt, Ld, Pr, Jd)
  else
    o_bd (m_Tx_kind x2 T1) fun q8 =>
    o_bd (m_Kw_concerns x9 q8) fun q9 =>
    if q9 = 0 then
      o_nm (x7 + (1:Int32)) fun x7_269 =>
      some (0, x4, x6, x7_269, Pg, Pt, Ld, Pr, Jd)
    else
      if (kw_reach x9) = (1:Int32) then
        o_bd (m_Jd_asserts n x9 x8 x2 T0 T1 Pg Pt Ld) fun q12 =>
        m_Jd_evaluate_j252 n rec x1 x2 x3 x4 x5 x6 x7 x8 q12.1 T0 T1 q12.2.1 q12.2.2.1 Mk q12.2.2.2 Pr Jd
      else
        o_bd (m_Jd_apply n rec x9 x8 x2 x3 T0 T1 Pg Pt Mk Ld Pr Jd) fun q10 =>
        m_Jd_evaluate_j252 n rec x1 x2 x3 x4 x5 x6 x7 x8 q10.1 T0 T1 q10.2.1 q10.2.2.1 Mk q10.2.2.2.1 q10.2.2.2.2.1 q10.2.2.2.2.2
def m_Jd_evaluate_j178 (n : Nat) (rec : Int32 → Int32 → Int32 → STx → STx → SPg → SPt → SMk → SLd → SPr → SJd → Option (Int32 × SPg × SPt × SLd × SPr × SJd)) (x1 : Int32) (x2 : Int32) (x3 : Int32) (x4 : Int32) (x5 : Int32) (x6 : Int32) (x7 : Int32) (y1 : Int32) (y2 : Nat) (T0 : STx) (T1 : STx) (Pg : SPg) (Pt : SPt) (Mk : SMk) (Ld : SLd) (Pr : SPr) (Jd : SJd) : Option (Nat × Int32 × Int32 × Int32 × SPg × SPt × SLd × SPr × SJd) :=
  o_bd (m_Mk_find n y1 y2 T0 Mk) fun q14 =>
  o_bd (m_Mk_keyword q14 Mk) fun q15 =>
  o_gd (o_kb q15) <|
  m_Jd_evaluate_j194 n rec x1 x2 x3 x4 x5 x6 x7 q14 q15 T0 T1 Pg Pt Mk Ld Pr Jd
def m_Jd_evaluate_j117 (n : Nat) (rec : Int32 → Int32 → Int32 → STx → STx → SPg → SPt → SMk → SLd → SPr → SJd → Option (Int32 × SPg × SPt × SLd × SPr × SJd)) (x1 : Int32) (x2 : Int32) (x3 : Int32) (x4 : Int32) (x5 : Int32) (x6 : Int32) (x7 : Int32) (x8 : Int32) (x9 : Nat) (y0 : Int32) (y1 : Int32) (T0 : STx) (T1 : STx) (Pg : SPg) (Pt : SPt) (Mk : SMk) (Ld : SLd) (Pr : SPr) (Jd : SJd) : Option (Nat × Int32 × Int32 × Int32 × SPg × SPt × SLd × SPr × SJd) :=
  if y0 = y1 then
    if x9 = 3 then
      o_nm (x7 + (1:Int32)) fun x7_269 =>
      some (0, x4, x6, x7_269, Pg, Pt, Ld, Pr, Jd)
    else
      if x9 = 4 then
        o_nm (x7 + (1:Int32)) fun x7_269 =>
        some (0, x4, x6, x7_269, Pg, Pt, Ld, Pr, Jd)
      else
        if x9 = 2 then
          o_bd (m_Jd_apply n rec x9 x8 x2 x3 T0 T1 Pg Pt Mk Ld Pr Jd) fun q13 =>
          if q13.1 = 0 then
            m_Jd_evaluate_j178 n rec x1 x2 x3 x4 x5 x6 x7 x1 4 T0 T1 q13.2.1 q13.2.2.1 Mk q13.2.2.2.1 q13.2.2.2.2.1 q13.2.2.2.2.2
          else
            m_Jd_evaluate_j178 n rec x1 x2 x3 x4 x5 x6 x7 x1 3 T0 T1 q13.2.1 q13.2.2.1 Mk q13.2.2.2.1 q13.2.2.2.2.1 q13.2.2.2.2.2
        else
          m_Jd_evaluate_j194 n rec x1 x2 x3 x4 x5 x6 x7 x8 x9 T0 T1 Pg Pt Mk Ld Pr Jd
  else
    o_nm (x7 + (1:Int32)) fun x7_269 =>
    some (0, x4, x6, x7_269, Pg, Pt, Ld, Pr, Jd)
def m_Jd_evaluate_b55 (n : Nat) (rec : Int32 → Int32 → Int32 → STx → STx → SPg → SPt → SMk → SLd → SPr → SJd → Option (Int32 × SPg × SPt × SLd × SPr × SJd)) (x1 : Int32) (x2 : Int32) (x3 : Int32) (x5 : Int32) (T0 : STx) (T1 : STx) (Mk : SMk) (z : Int32 × Int32 × Int32 × SPg × SPt × SLd × SPr × SJd) : Option (Nat × Int32 × Int32 × Int32 × SPg × SPt × SLd × SPr × SJd) :=
  o_bd (m_Tx_size x1 T0) fun q4 =>
  if q4 ≤ z.2.2.1 then
    some (1, z.1, z.2.1, z.2.2.1, z.2.2.2.1, z.2.2.2.2.1, z.2.2.2.2.2.1, z.2.2.2.2.2.2.1, z.2.2.2.2.2.2.2)
  else
    if (Jd_over z.2.2.2.2.2.2.2) = 0 then
      o_bd (m_Mk_keyword z.2.1 Mk) fun q5 =>
      o_gd (o_kb q5) <|
      o_bd (m_Tx_nextChild z.2.1 T0) fun q6 =>
      o_bd (m_Kw_comesLast q5) fun q7 =>
      if x5 = (1:Int32) then
        m_Jd_evaluate_j117 n rec x1 x2 x3 z.1 x5 q6 z.2.2.1 z.2.1 q5 q7 (1:Int32) T0 T1 z.2.2.2.1 z.2.2.2.2.1 Mk z.2.2.2.2.2.1 z.2.2.2.2.2.2.1 z.2.2.2.2.2.2.2
      else
        m_Jd_evaluate_j117 n rec x1 x2 x3 z.1 x5 q6 z.2.2.1 z.2.1 q5 q7 (0:Int32) T0 T1 z.2.2.2.1 z.2.2.2.2.1 Mk z.2.2.2.2.2.1 z.2.2.2.2.2.2.1 z.2.2.2.2.2.2.2
    else
      some (1, z.1, z.2.1, z.2.2.1, z.2.2.2.1, z.2.2.2.2.1, z.2.2.2.2.2.1, z.2.2.2.2.2.2.1, z.2.2.2.2.2.2.2)
def m_Jd_evaluate_b36 (n : Nat) (rec : Int32 → Int32 → Int32 → STx → STx → SPg → SPt → SMk → SLd → SPr → SJd → Option (Int32 × SPg × SPt × SLd × SPr × SJd)) (x1 : Int32) (x2 : Int32) (x3 : Int32) (T0 : STx) (T1 : STx) (Mk : SMk) (z : Int32 × Int32 × SPg × SPt × SLd × SPr × SJd) : Option (Nat × Int32 × Int32 × SPg × SPt × SLd × SPr × SJd) :=
  if (2:Int32) ≤ z.2.1 then
    some (1, z.1, z.2.1, z.2.2.1, z.2.2.2.1, z.2.2.2.2.1, z.2.2.2.2.2.1, z.2.2.2.2.2.2)
  else
    o_bd (m_Tx_firstChild x1 T0) fun q3 =>
    o_bd (o_lp n (m_Jd_evaluate_b55 n rec x1 x2 x3 z.2.1 T0 T1 Mk) (z.1, q3, (0:Int32), z.2.2.1, z.2.2.2.1, z.2.2.2.2.1, z.2.2.2.2.2.1, z.2.2.2.2.2.2)) fun q16 =>
    o_nm (z.2.1 + (1:Int32)) fun x5_275 =>
    some (0, q16.2.1, x5_275, q16.2.2.2.2.1, q16.2.2.2.2.2.1, q16.2.2.2.2.2.2.1, q16.2.2.2.2.2.2.2.1, q16.2.2.2.2.2.2.2.2)
def m_Jd_evaluate_F (n : Nat) (rec : Int32 → Int32 → Int32 → STx → STx → SPg → SPt → SMk → SLd → SPr → SJd → Option (Int32 × SPg × SPt × SLd × SPr × SJd)) (x1 : Int32) (x2 : Int32) (x3 : Int32) (T0 : STx) (T1 : STx) (Pg : SPg) (Pt : SPt) (Mk : SMk) (Ld : SLd) (Pr : SPr) (Jd : SJd) : Option (Int32 × SPg × SPt × SLd × SPr × SJd) :=
  o_bd (m_Jd_enter x3 Jd) fun q1 =>
  if q1.1 = 0 then
    some ((0:Int32), Pg, Pt, Ld, Pr, q1.2)
  else
    o_bd (m_Tx_kind x1 T0) fun q2 =>
    if q2 = (1:Int32) then
      o_bd (m_Jd_tell n x2 x1 Pr q1.2) fun q18 =>
      some ((0:Int32), Pg, Pt, Ld, q18, q1.2)
    else
      o_bd (o_lp n (m_Jd_evaluate_b36 n rec x1 x2 x3 T0 T1 Mk) ((1:Int32), (0:Int32), Pg, Pt, Ld, Pr, q1.2)) fun q17 =>
      o_gd (o_zb q17.2.1) <|
      some (q17.2.1, q17.2.2.2.1, q17.2.2.2.2.1, q17.2.2.2.2.2.1, q17.2.2.2.2.2.2.1, q17.2.2.2.2.2.2.2)
def m_Jd_evaluate (n : Nat) : Nat → Int32 → Int32 → Int32 → STx → STx → SPg → SPt → SMk → SLd → SPr → SJd → Option (Int32 × SPg × SPt × SLd × SPr × SJd)
  | 0, _, _, _, _, _, _, _, _, _, _, _ => none
  | d + 1, v0, v1, v2, v3, v4, v5, v6, v7, v8, v9, v10 => m_Jd_evaluate_F n (m_Jd_evaluate n d) v0 v1 v2 v3 v4 v5 v6 v7 v8 v9 v10
def m_Pr_sort_j71 (n : Nat) (x1 : Int32) (x2 : Int32) (x3 : Int32) (x4 : Int32) (Pr : SPr) : Option (Nat × Int32 × SPr) :=
  o_gd (o_in (x4 - (1:Int32)) 300) <|
  o_gd (o_in x4 300) <|
  o_gd (o_in (x4 - (1:Int32)) 300) <|
  o_gd (o_in x4 300) <|
  o_nm (x4 + (-1:Int32)) fun x4_103 =>
  some (0, x4_103, (Pr_mk (upd (Pr_values Pr) x4.toNatClampNeg ((Pr_values Pr) (x4 - (1:Int32)).toNatClampNeg)) (upd (Pr_keywords Pr) x4.toNatClampNeg ((Pr_keywords Pr) (x4 - (1:Int32)).toNatClampNeg)) (Pr_size Pr)))
def m_Pr_sort_b27 (n : Nat) (x1 : Int32) (x2 : Int32) (x3 : Int32) (z : Int32 × SPr) : Option (Nat × Int32 × SPr) :=
  if z.1 ≤ 0 then
    some (1, z.1, z.2)
  else
    o_gd (o_in (z.1 - (1:Int32)) 300) <|
    if x2 < ((Pr_values z.2) (z.1 - (1:Int32)).toNatClampNeg) then
      m_Pr_sort_j71 n x1 x2 x3 z.1 z.2
    else
      o_gd (o_in (z.1 - (1:Int32)) 300) <|
      if ((Pr_values z.2) (z.1 - (1:Int32)).toNatClampNeg) = x2 then
        o_gd (o_in (z.1 - (1:Int32)) 300) <|
        if ((Pr_keywords z.2) (z.1 - (1:Int32)).toNatClampNeg) ≤ x3 then
          some (1, z.1, z.2)
        else
          m_Pr_sort_j71 n x1 x2 x3 z.1 z.2
      else
        some (1, z.1, z.2)
def m_Pr_sort_j109 (n : Nat) (x1 : Int32) (x2 : Int32) (x3 : Int32) (x4 : Int32) (Pr : SPr) : Option (Nat × Int32 × SPr) :=
  o_gd (o_in x4 300) <|
  o_gd (o_in x4 300) <|
  o_nm (x1 + (1:Int32)) fun x1_125 =>
  some (0, x1_125, (Pr_mk (upd (Pr_values Pr) x4.toNatClampNeg x2) (upd (Pr_keywords Pr) x4.toNatClampNeg x3) (Pr_size Pr)))
def m_Pr_sort_b2 (n : Nat) (z : Int32 × SPr) : Option (Nat × Int32 × SPr) :=
  if (Pr_size z.2) ≤ z.1 then
    some (1, z.1, z.2)
  else
    o_gd (o_in z.1 300) <|
    o_nm ((Pr_values z.2) z.1.toNatClampNeg) fun x2_16 =>
    o_gd (o_in z.1 300) <|
    o_nm ((Pr_keywords z.2) z.1.toNatClampNeg) fun x3_23 =>
    o_bd (o_lp n (m_Pr_sort_b27 n z.1 x2_16 x3_23) (z.1, z.2)) fun q1 =>
    m_Pr_sort_j109 n z.1 x2_16 x3_23 q1.2.1 q1.2.2
def m_Pr_sort (n : Nat) (Pr : SPr) : Option (SPr) :=
  o_bd (o_lp n (m_Pr_sort_b2 n) ((1:Int32), Pr)) fun q2 =>
  some q2.2.2
def m_Jd_finish_j15 (n : Nat) (Pr : SPr) (Jd : SJd) : Option (SPr) :=
  o_bd (m_Pr_sort n Pr) fun q1 =>
  some q1
def m_Jd_finish (n : Nat) (Pr : SPr) (Jd : SJd) : Option (SPr) :=
  if (Jd_over Jd) = 0 then
    m_Jd_finish_j15 n Pr Jd
  else
    o_bd (m_Pr_cut (0:Int32) Pr) fun q2 =>
    m_Jd_finish_j15 n q2 Jd
def m_Jd_isOver (Jd : SJd) : Option (Int32) :=
  o_gd (o_zb (Jd_over Jd)) <|
  some (Jd_over Jd)
def m_SJ_validate_j20 (n : Nat) (T0 : STx) (T1 : STx) (Pg : SPg) (Pt : SPt) (Mk : SMk) (Ck : SCk) (Ld : SLd) (Pr : SPr) (Jd : SJd) : Option (Nat × Int32 × SPg × SPt × SLd × SPr × SJd) :=
  some (3, (0:Int32), Pg, Pt, Ld, Pr, Jd)
def m_SJ_validate (n : Nat) (T0 : STx) (T1 : STx) (Pg : SPg) (Pt : SPt) (Mk : SMk) (Ck : SCk) (Ld : SLd) (Pr : SPr) (Jd : SJd) : Option (Nat × Int32 × SPg × SPt × SLd × SPr × SJd) :=
  o_bd (m_Tx_total T1) fun q1 =>
  if q1 = 0 then
    m_SJ_validate_j20 n T0 T1 Pg Pt Mk Ck Ld Pr Jd
  else
    o_bd (m_Ck_passed Ck) fun q2 =>
    if q2 = 0 then
      m_SJ_validate_j20 n T0 T1 Pg Pt Mk Ck Ld Pr Jd
    else
      o_bd (m_Jd_begin Pr Jd) fun q3 =>
      o_bd (m_Jd_evaluate n 102 (0:Int32) (0:Int32) (1:Int32) T0 T1 Pg Pt Mk Ld q3.1 q3.2) fun q4 =>
      o_bd (m_Jd_finish n q4.2.2.2.2.1 q4.2.2.2.2.2) fun q5 =>
      o_bd (m_Jd_isOver q4.2.2.2.2.2) fun q6 =>
      if q6 = 0 then
        o_gd (o_zb q4.1) <|
        some (0, q4.1, q4.2.1, q4.2.2.1, q4.2.2.2.1, q5, q4.2.2.2.2.2)
      else
        some (4, (0:Int32), q4.2.1, q4.2.2.1, q4.2.2.2.1, q5, q4.2.2.2.2.2)
def m_Jd_pairsKept (Pr : SPr) : Option (Int32) :=
  o_bd (m_Pr_size Pr) fun q1 =>
  some q1
def m_SJ_pairs (Pr : SPr) : Option (Int32) :=
  o_bd (m_Jd_pairsKept Pr) fun q1 =>
  some q1
def m_Pr_at (x1 : Int32) (x2 : Int32) (Pr : SPr) : Option (Int32) :=
  if x1 < 0 then
    some (-1:Int32)
  else
    if x1 < (Pr_size Pr) then
      if x2 = 0 then
        o_gd (o_in x1 300) <|
        some ((Pr_values Pr) x1.toNatClampNeg)
      else
        o_gd (o_in x1 300) <|
        some ((Pr_keywords Pr) x1.toNatClampNeg)
    else
      some (-1:Int32)
def m_Jd_pairAt (x1 : Int32) (x2 : Int32) (Pr : SPr) : Option (Int32) :=
  o_bd (m_Pr_at x1 x2 Pr) fun q1 =>
  some q1
def m_SJ_pair_j15 (Pr : SPr) : Option (Nat × Int32) :=
  some (1, (0:Int32))
def m_SJ_pair (x1 : Int32) (x2 : Int32) (Pr : SPr) : Option (Nat × Int32) :=
  if x1 < 0 then
    m_SJ_pair_j15 Pr
  else
    o_bd (m_Jd_pairsKept Pr) fun q1 =>
    if x1 < q1 then
      o_bd (m_Jd_pairAt x1 x2 Pr) fun q2 =>
      some (0, q2)
    else
      m_SJ_pair_j15 Pr
def m_Tx_has (x1 : Int32) (a0 : STx) : Option (Int32) :=
  if x1 < 0 then
    some (0:Int32)
  else
    if (Tx_total a0) ≤ x1 then
      some (0:Int32)
    else
      some (1:Int32)
def m_SJ_value_j9 (T0 : STx) (T1 : STx) : Option (Nat × Int32) :=
  some (2, (0:Int32))
def m_SJ_value_j34 (x2 : Int32) (x3 : Int32) (T0 : STx) (T1 : STx) : Option (Nat × Int32) :=
  o_bd (m_Tx_has x2 T1) fun q1 =>
  if q1 = 0 then
    some (1, (0:Int32))
  else
    if x3 = (0:Int32) then
      o_bd (m_Tx_kind x2 T1) fun q2 =>
      some (0, q2)
    else
    if x3 = (1:Int32) then
      o_bd (m_Tx_place x2 T1) fun q3 =>
      some (0, q3)
    else
    if x3 = (2:Int32) then
      o_bd (m_Tx_size x2 T1) fun q4 =>
      some (0, q4)
    else
    if x3 = (3:Int32) then
      o_bd (m_Tx_parent x2 T1) fun q5 =>
      some (0, q5)
    else
    o_bd (m_Tx_exponent x2 T1) fun q6 =>
    some (0, q6)
def m_SJ_value_j34v7 (x2 : Int32) (x3 : Int32) (T0 : STx) (T1 : STx) : Option (Nat × Int32) :=
  o_bd (m_Tx_has x2 T0) fun q8 =>
  if q8 = 0 then
    some (1, (0:Int32))
  else
    if x3 = (0:Int32) then
      o_bd (m_Tx_kind x2 T0) fun q9 =>
      some (0, q9)
    else
    if x3 = (1:Int32) then
      o_bd (m_Tx_place x2 T0) fun q10 =>
      some (0, q10)
    else
    if x3 = (2:Int32) then
      o_bd (m_Tx_size x2 T0) fun q11 =>
      some (0, q11)
    else
    if x3 = (3:Int32) then
      o_bd (m_Tx_parent x2 T0) fun q12 =>
      some (0, q12)
    else
    o_bd (m_Tx_exponent x2 T0) fun q13 =>
    some (0, q13)
def m_SJ_value (x1 : Int32) (x2 : Int32) (x3 : Int32) (T0 : STx) (T1 : STx) : Option (Nat × Int32) :=
  if x3 < 0 then
    m_SJ_value_j9 T0 T1
  else
    if x3 ≤ (4:Int32) then
      if x1 = 0 then
        m_SJ_value_j34 x2 x3 T0 T1
      else
        m_SJ_value_j34v7 x2 x3 T0 T1
    else
      m_SJ_value_j9 T0 T1
def m_SJ_alike_j22 (n : Nat) (T1 : STx) : Option (Nat × Int32) :=
  some (1, (0:Int32))
def m_SJ_alike (n : Nat) (x1 : Int32) (x2 : Int32) (T1 : STx) : Option (Nat × Int32) :=
  o_bd (m_Tx_has x1 T1) fun q1 =>
  if q1 = 0 then
    m_SJ_alike_j22 n T1
  else
    o_bd (m_Tx_has x2 T1) fun q2 =>
    if q2 = 0 then
      m_SJ_alike_j22 n T1
    else
      o_bd (m_Tx_same n 43 x1 x2 (0:Int32) T1 T1) fun q3 =>
      o_gd (o_zb q3) <|
      some (0, q3)
def m_SJ_matches_j22 (n : Nat) (T1 : STx) (Pg : SPg) (Pt : SPt) : Option (Nat × Int32 × SPg × SPt) :=
  some (1, (0:Int32), Pg, Pt)
def m_SJ_matches_j56 (n : Nat) (T1 : STx) (Pg : SPg) (Pt : SPt) : Option (Nat × Int32 × SPg × SPt) :=
  some (2, (0:Int32), Pg, Pt)
def m_SJ_matches_j91 (n : Nat) (T1 : STx) (Pg : SPg) (Pt : SPt) : Option (Nat × Int32 × SPg × SPt) :=
  some (2, (0:Int32), Pg, Pt)
def m_SJ_matches (n : Nat) (x1 : Int32) (x2 : Int32) (T1 : STx) (Pg : SPg) (Pt : SPt) : Option (Nat × Int32 × SPg × SPt) :=
  o_bd (m_Tx_has x1 T1) fun q1 =>
  if q1 = 0 then
    m_SJ_matches_j22 n T1 Pg Pt
  else
    o_bd (m_Tx_has x2 T1) fun q2 =>
    if q2 = 0 then
      m_SJ_matches_j22 n T1 Pg Pt
    else
      o_bd (m_Tx_kind x1 T1) fun q3 =>
      if q3 = (4:Int32) then
        o_bd (m_Tx_kind x2 T1) fun q4 =>
        if q4 = (4:Int32) then
          o_bd (m_Pt_tokenise n x2 T1 Pt) fun q5 =>
          if q5.1 = 0 then
            m_SJ_matches_j91 n T1 Pg q5.2
          else
            o_bd (m_Pt_parse n Pg q5.2) fun q6 =>
            if q6.1 = 0 then
              m_SJ_matches_j91 n T1 q6.2.1 q6.2.2
            else
              o_bd (m_Pg_finds n x1 T1 q6.2.1) fun q7 =>
              o_gd (o_zb q7.1) <|
              some (0, q7.1, q7.2, q6.2.2)
        else
          m_SJ_matches_j56 n T1 Pg Pt
      else
        m_SJ_matches_j56 n T1 Pg Pt
def m_Jd_evaluatedSchemas (Jd : SJd) : Option (Int32) :=
  some (Jd_schemas Jd)
def m_Jd_deepest (Jd : SJd) : Option (Int32) :=
  some (Jd_deepest Jd)
def m_SJ_count (x1 : Int32) (T0 : STx) (T1 : STx) (Jd : SJd) : Option (Nat × Int32) :=
  if x1 = (0:Int32) then
    o_bd (m_Tx_total T0) fun q1 =>
    some (0, q1)
  else
  if x1 = (1:Int32) then
    o_bd (m_Tx_total T1) fun q2 =>
    some (0, q2)
  else
  if x1 = (2:Int32) then
    o_bd (m_Jd_evaluatedSchemas Jd) fun q3 =>
    some (0, q3)
  else
  if x1 = (3:Int32) then
    o_bd (m_Jd_deepest Jd) fun q4 =>
    some (0, q4)
  else
  some (2, (0:Int32))
