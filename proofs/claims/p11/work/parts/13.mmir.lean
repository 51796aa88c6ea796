def m_MM_thrown (Ni : SNI) : Option (Int32) :=
  some (NI_err Ni)
def m_MM_fails_j16 (Ni : SNI) : Option (Int32 × SNI) :=
  if (NI_err Ni) = 0 then
    some ((0:Int32), Ni)
  else
    some ((1:Int32), Ni)
def m_MM_fails (x1 : Int32) (x2 : Int32) (Ni : SNI) : Option (Int32 × SNI) :=
  if x1 = 0 then
    m_MM_fails_j16 Ni
  else
    if (NI_err Ni) = 0 then
      m_MM_fails_j16 (NI_mk x2 (NI_fed Ni) (NI_wrong Ni) (NI_octets Ni))
    else
      m_MM_fails_j16 Ni
def m_MM_in (x0 : Int32) (x1 : Int32) (x2 : Int32) : Option (Int32) :=
  if x0 < x1 then
    some (0:Int32)
  else
    if x2 < x0 then
      some (0:Int32)
    else
      some (1:Int32)
def m_MM_feed_j89 (n : Nat) (x1 : Int32) (x2 : Int32) (x3 : Int32) (x4 : Int32) (x5 : Int32) (x6 : Int32) (y0 : Int32) (Ni : SNI) : Option (Nat × Int32 × SNI) :=
  o_gd (o_in (NI_fed Ni) 8200) <|
  o_nm (x6 + (1:Int32)) fun x6_124 =>
  some (0, x6_124, (NI_mk (NI_err Ni) ((NI_fed Ni) + (1:Int32)) (NI_wrong Ni) (upd (NI_octets Ni) (NI_fed Ni).toNatClampNeg ((y0.toUInt32 >>> (((24:Int32) - ((8:Int32) * (x6 &&& (3:Int32)))).toUInt32 &&& Int32.toUInt32 31)).toInt32 &&& (255:Int32)))))
def m_MM_feed_b36 (n : Nat) (x1 : Int32) (x2 : Int32) (x3 : Int32) (x4 : Int32) (x5 : Int32) (z : Int32 × SNI) : Option (Nat × Int32 × SNI) :=
  if (20:Int32) ≤ z.1 then
    some (1, z.1, z.2)
  else
    if (4:Int32) ≤ z.1 then
      if (8:Int32) ≤ z.1 then
        if (12:Int32) ≤ z.1 then
          if (16:Int32) ≤ z.1 then
            m_MM_feed_j89 n x1 x2 x3 x4 x5 z.1 x5 z.2
          else
            m_MM_feed_j89 n x1 x2 x3 x4 x5 z.1 x4 z.2
        else
          m_MM_feed_j89 n x1 x2 x3 x4 x5 z.1 x3 z.2
      else
        m_MM_feed_j89 n x1 x2 x3 x4 x5 z.1 x2 z.2
    else
      m_MM_feed_j89 n x1 x2 x3 x4 x5 z.1 x1 z.2
def m_MM_feed_j24 (n : Nat) (x1 : Int32) (x2 : Int32) (x3 : Int32) (x4 : Int32) (x5 : Int32) (y1 : Int32) (Ni : SNI) : Option (Int32 × SNI) :=
  o_bd (m_MM_fails y1 (1:Int32) Ni) fun q1 =>
  if q1.1 = 0 then
    o_bd (o_lp n (m_MM_feed_b36 n x1 x2 x3 x4 x5) ((0:Int32), q1.2)) fun q2 =>
    some ((NI_fed q2.2.2), q2.2.2)
  else
    some ((0:Int32), q1.2)
def m_MM_feed (n : Nat) (x1 : Int32) (x2 : Int32) (x3 : Int32) (x4 : Int32) (x5 : Int32) (Ni : SNI) : Option (Int32 × SNI) :=
  if ((NI_fed Ni) + (20:Int32)) ≤ (8200:Int32) then
    m_MM_feed_j24 n x1 x2 x3 x4 x5 (0:Int32) (NI_mk (0:Int32) (NI_fed Ni) (NI_wrong Ni) (NI_octets Ni))
  else
    m_MM_feed_j24 n x1 x2 x3 x4 x5 (1:Int32) (NI_mk (0:Int32) (NI_fed Ni) (NI_wrong Ni) (NI_octets Ni))
def m_MT_c (x1 : Int32) (a0 : SMT) : Option (Int32) :=
  if (MT_letters a0) ≤ x1 then
    some (-1:Int32)
  else
    o_gd (o_in x1 8196) <|
    some ((MT_text a0) x1.toNatClampNeg)
def m_MT_blanks_j52 (n : Nat) (a0 : SMT) : Option (Nat × SMT) :=
  some (0, (MT_mk (MT_text a0) (MT_kind a0) (MT_place a0) (MT_many a0) (MT_parent a0) (MT_power a0) (MT_first a0) (MT_next a0) (MT_name a0) (MT_from a0) (MT_characters a0) (MT_digits a0) (MT_minus a0) (MT_values a0) (MT_letters a0) ((MT_at a0) + (1:Int32)) (MT_wrong a0) (MT_used a0) (MT_written a0) (MT_left a0)))
def m_MT_blanks_b0 (n : Nat) (z : SMT) : Option (Nat × SMT) :=
  o_bd (m_MT_c (MT_at z) z) fun q1 =>
  if q1 = (32:Int32) then
    m_MT_blanks_j52 n z
  else
    o_bd (m_MT_c (MT_at z) z) fun q2 =>
    if q2 = (9:Int32) then
      m_MT_blanks_j52 n z
    else
      o_bd (m_MT_c (MT_at z) z) fun q3 =>
      if q3 = (10:Int32) then
        m_MT_blanks_j52 n z
      else
        o_bd (m_MT_c (MT_at z) z) fun q4 =>
        if q4 = (13:Int32) then
          m_MT_blanks_j52 n z
        else
          some (1, z)
def m_MT_blanks (n : Nat) (a0 : SMT) : Option (SMT) :=
  o_bd (o_lp n (m_MT_blanks_b0 n) (a0)) fun q5 =>
  some q5.2
def m_MT_bad (x1 : Int32) (a0 : SMT) : Option (Int32 × SMT) :=
  if 0 ≤ (MT_wrong a0) then
    some ((0:Int32), a0)
  else
    some ((0:Int32), (MT_mk (MT_text a0) (MT_kind a0) (MT_place a0) (MT_many a0) (MT_parent a0) (MT_power a0) (MT_first a0) (MT_next a0) (MT_name a0) (MT_from a0) (MT_characters a0) (MT_digits a0) (MT_minus a0) (MT_values a0) (MT_letters a0) (MT_at a0) x1 (MT_used a0) (MT_written a0) (MT_left a0)))
def m_MT_fresh (x1 : Int32) (x2 : Int32) (a0 : SMT) : Option (Int32 × SMT) :=
  o_nm (MT_values a0) fun x3_11 =>
  o_gd (o_in x3_11 1000) <|
  o_gd (o_in x3_11 1000) <|
  o_gd (o_in x3_11 1000) <|
  o_gd (o_in x3_11 1000) <|
  o_gd (o_in x3_11 1000) <|
  o_gd (o_in x3_11 1000) <|
  o_gd (o_in x3_11 1000) <|
  o_gd (o_in x3_11 1000) <|
  some (x3_11, (MT_mk (MT_text a0) (upd (MT_kind a0) x3_11.toNatClampNeg x2) (upd (MT_place a0) x3_11.toNatClampNeg (MT_at a0)) (upd (MT_many a0) x3_11.toNatClampNeg (0:Int32)) (upd (MT_parent a0) x3_11.toNatClampNeg x1) (upd (MT_power a0) x3_11.toNatClampNeg (0:Int32)) (upd (MT_first a0) x3_11.toNatClampNeg (-1:Int32)) (upd (MT_next a0) x3_11.toNatClampNeg (-1:Int32)) (upd (MT_name a0) x3_11.toNatClampNeg (-1:Int32)) (MT_from a0) (MT_characters a0) (MT_digits a0) (MT_minus a0) ((MT_values a0) + (1:Int32)) (MT_letters a0) (MT_at a0) (MT_wrong a0) (MT_used a0) (MT_written a0) (MT_left a0)))
def m_MT_word_b10 (n : Nat) (x1 : Nat) (z : Int32 × SMT) : Option (Nat × Int32 × SMT) :=
  o_bd (m_JS_length x1) fun q2 =>
  if q2 ≤ z.1 then
    some (2, z.1, z.2)
  else
    o_bd (m_MT_c (MT_at z.2) z.2) fun q3 =>
    o_bd (m_JS_charAt x1 z.1) fun q4 =>
    if q3 = q4 then
      o_nm (z.1 + (1:Int32)) fun x4_55 =>
      some (0, x4_55, (MT_mk (MT_text z.2) (MT_kind z.2) (MT_place z.2) (MT_many z.2) (MT_parent z.2) (MT_power z.2) (MT_first z.2) (MT_next z.2) (MT_name z.2) (MT_from z.2) (MT_characters z.2) (MT_digits z.2) (MT_minus z.2) (MT_values z.2) (MT_letters z.2) ((MT_at z.2) + (1:Int32)) (MT_wrong z.2) (MT_used z.2) (MT_written z.2) (MT_left z.2)))
    else
      some (1, z.1, z.2)
def m_MT_word (n : Nat) (x1 : Nat) (x2 : Int32) (x3 : Int32) (a0 : SMT) : Option (Int32 × SMT) :=
  o_bd (m_MT_fresh x2 x3 a0) fun q1 =>
  o_bd (o_lp n (m_MT_word_b10 n x1) ((0:Int32), q1.2)) fun q5 =>
  if q5.1 = 1 then
    o_bd (m_MT_bad (MT_at q5.2.2) q5.2.2) fun q6 =>
    o_gd (o_zb q6.1) <|
    some (q6.1, q6.2)
  else
  some ((1:Int32), q5.2.2)
def m_MT_put (x1 : Int32) (x2 : Int32) (a0 : SMT) : Option (Int32 × SMT) :=
  if (MT_used a0) = (4000:Int32) then
    o_bd (m_MT_bad x2 a0) fun q1 =>
    o_gd (o_zb q1.1) <|
    some (q1.1, q1.2)
  else
    o_gd (o_in (MT_used a0) 4000) <|
    some ((1:Int32), (MT_mk (MT_text a0) (MT_kind a0) (MT_place a0) (MT_many a0) (MT_parent a0) (MT_power a0) (MT_first a0) (MT_next a0) (MT_name a0) (MT_from a0) (upd (MT_characters a0) (MT_used a0).toNatClampNeg x1) (MT_digits a0) (MT_minus a0) (MT_values a0) (MT_letters a0) (MT_at a0) (MT_wrong a0) ((MT_used a0) + (1:Int32)) (MT_written a0) (MT_left a0)))
def m_MT_hex (x0 : Int32) : Option (Int32) :=
  o_bd (m_MM_in x0 (48:Int32) (57:Int32)) fun q1 =>
  if q1 = 0 then
    o_bd (m_MM_in (x0 ||| (32:Int32)) (97:Int32) (102:Int32)) fun q2 =>
    if q2 = 0 then
      some (-1:Int32)
    else
      some (((x0 ||| (32:Int32)) - (97:Int32)) + (10:Int32))
  else
    some (x0 - (48:Int32))
def m_MT_four_j33 (n : Nat) (x1 : Int32) (x2 : Int32) (x3 : Int32) (y0 : Int32) (a0 : SMT) : Option (Nat × Int32 × Int32) :=
  if 0 ≤ y0 then
    o_nm (((16:Int32) * x2) + y0) fun x2_49 =>
    o_nm (x3 + (1:Int32)) fun x3_50 =>
    some (0, x2_49, x3_50)
  else
    some (1, x2, x3)
def m_MT_four_b4 (n : Nat) (x1 : Int32) (a0 : SMT) (z : Int32 × Int32) : Option (Nat × Int32 × Int32) :=
  if (4:Int32) ≤ z.2 then
    some (2, z.1, z.2)
  else
    o_bd (m_MT_c (x1 + z.2) a0) fun q1 =>
    if 0 ≤ q1 then
      o_bd (m_MT_c (x1 + z.2) a0) fun q2 =>
      o_bd (m_MT_hex q2) fun q3 =>
      m_MT_four_j33 n x1 z.1 z.2 q3 a0
    else
      m_MT_four_j33 n x1 z.1 z.2 (-1:Int32) a0
def m_MT_four (n : Nat) (x1 : Int32) (a0 : SMT) : Option (Int32) :=
  o_bd (o_lp n (m_MT_four_b4 n x1 a0) ((0:Int32), (0:Int32))) fun q4 =>
  if q4.1 = 1 then
    some (-1:Int32)
  else
  some q4.2.1
def m_MT_escape_b122 (n : Nat) (x1 : Int32) (a0 : SMT) (z : Int32) : Option (Nat × Int32) :=
  if (4:Int32) ≤ z then
    some (2, z)
  else
    o_bd (m_MT_c ((MT_at a0) + z) a0) fun q2 =>
    if q2 < 0 then
      some (1, z)
    else
      o_bd (m_MT_c ((MT_at a0) + z) a0) fun q3 =>
      o_bd (m_MT_hex q3) fun q4 =>
      if 0 ≤ q4 then
        o_nm (z + (1:Int32)) fun x4_171 =>
        some (0, x4_171)
      else
        some (1, z)
def m_MT_escape_j159 (n : Nat) (x4 : Int32) (a0 : SMT) : Option (Int32 × SMT) :=
  o_bd (m_MT_bad ((MT_at a0) + x4) a0) fun q6 =>
  o_gd (o_zb q6.1) <|
  some (q6.1, q6.2)
def m_MT_escape_j273 (n : Nat) (x1 : Int32) (x3 : Int32) (y0 : Int32) (a0 : SMT) : Option (Int32 × SMT) :=
  o_bd (m_MM_in y0 (56320:Int32) (57343:Int32)) fun q11 =>
  if q11 = 0 then
    o_bd (m_MT_bad x1 a0) fun q13 =>
    o_gd (o_zb q13.1) <|
    some (q13.1, q13.2)
  else
    o_bd (m_MT_put ((((65536:Int32) + ((x3 - (55296:Int32)) <<< ((10:Int32) &&& 31))) + y0) - (56320:Int32)) x1 (MT_mk (MT_text a0) (MT_kind a0) (MT_place a0) (MT_many a0) (MT_parent a0) (MT_power a0) (MT_first a0) (MT_next a0) (MT_name a0) (MT_from a0) (MT_characters a0) (MT_digits a0) (MT_minus a0) (MT_values a0) (MT_letters a0) ((MT_at a0) + (6:Int32)) (MT_wrong a0) (MT_used a0) (MT_written a0) (MT_left a0))) fun q12 =>
    o_gd (o_zb q12.1) <|
    some (q12.1, q12.2)
def m_MT_escape_j86 (n : Nat) (x1 : Int32) (x2 : Int32) (y0 : Int32) (a0 : SMT) : Option (Int32 × SMT) :=
  if y0 < 0 then
    if x2 = (117:Int32) then
      o_bd (o_lp n (m_MT_escape_b122 n x1 (MT_mk (MT_text a0) (MT_kind a0) (MT_place a0) (MT_many a0) (MT_parent a0) (MT_power a0) (MT_first a0) (MT_next a0) (MT_name a0) (MT_from a0) (MT_characters a0) (MT_digits a0) (MT_minus a0) (MT_values a0) (MT_letters a0) (x1 + (2:Int32)) (MT_wrong a0) (MT_used a0) (MT_written a0) (MT_left a0))) ((0:Int32))) fun q5 =>
      if q5.1 = 1 then
        m_MT_escape_j159 n q5.2 (MT_mk (MT_text a0) (MT_kind a0) (MT_place a0) (MT_many a0) (MT_parent a0) (MT_power a0) (MT_first a0) (MT_next a0) (MT_name a0) (MT_from a0) (MT_characters a0) (MT_digits a0) (MT_minus a0) (MT_values a0) (MT_letters a0) (x1 + (2:Int32)) (MT_wrong a0) (MT_used a0) (MT_written a0) (MT_left a0))
      else
      o_bd (m_MT_four n (x1 + (2:Int32)) (MT_mk (MT_text a0) (MT_kind a0) (MT_place a0) (MT_many a0) (MT_parent a0) (MT_power a0) (MT_first a0) (MT_next a0) (MT_name a0) (MT_from a0) (MT_characters a0) (MT_digits a0) (MT_minus a0) (MT_values a0) (MT_letters a0) (x1 + (2:Int32)) (MT_wrong a0) (MT_used a0) (MT_written a0) (MT_left a0))) fun q7 =>
      o_bd (m_MM_in q7 (56320:Int32) (57343:Int32)) fun q8 =>
      if q8 = 0 then
        o_bd (m_MM_in q7 (55296:Int32) (56319:Int32)) fun q9 =>
        if q9 = 0 then
          o_bd (m_MT_put q7 x1 (MT_mk (MT_text a0) (MT_kind a0) (MT_place a0) (MT_many a0) (MT_parent a0) (MT_power a0) (MT_first a0) (MT_next a0) (MT_name a0) (MT_from a0) (MT_characters a0) (MT_digits a0) (MT_minus a0) (MT_values a0) (MT_letters a0) ((x1 + (2:Int32)) + (4:Int32)) (MT_wrong a0) (MT_used a0) (MT_written a0) (MT_left a0))) fun q16 =>
          o_gd (o_zb q16.1) <|
          some (q16.1, q16.2)
        else
          o_bd (m_MT_c ((x1 + (2:Int32)) + (4:Int32)) (MT_mk (MT_text a0) (MT_kind a0) (MT_place a0) (MT_many a0) (MT_parent a0) (MT_power a0) (MT_first a0) (MT_next a0) (MT_name a0) (MT_from a0) (MT_characters a0) (MT_digits a0) (MT_minus a0) (MT_values a0) (MT_letters a0) ((x1 + (2:Int32)) + (4:Int32)) (MT_wrong a0) (MT_used a0) (MT_written a0) (MT_left a0))) fun q10 =>
          if q10 = (92:Int32) then
            o_bd (m_MT_c (((x1 + (2:Int32)) + (4:Int32)) + (1:Int32)) (MT_mk (MT_text a0) (MT_kind a0) (MT_place a0) (MT_many a0) (MT_parent a0) (MT_power a0) (MT_first a0) (MT_next a0) (MT_name a0) (MT_from a0) (MT_characters a0) (MT_digits a0) (MT_minus a0) (MT_values a0) (MT_letters a0) ((x1 + (2:Int32)) + (4:Int32)) (MT_wrong a0) (MT_used a0) (MT_written a0) (MT_left a0))) fun q14 =>
            if q14 = (117:Int32) then
              o_bd (m_MT_four n (((x1 + (2:Int32)) + (4:Int32)) + (2:Int32)) (MT_mk (MT_text a0) (MT_kind a0) (MT_place a0) (MT_many a0) (MT_parent a0) (MT_power a0) (MT_first a0) (MT_next a0) (MT_name a0) (MT_from a0) (MT_characters a0) (MT_digits a0) (MT_minus a0) (MT_values a0) (MT_letters a0) ((x1 + (2:Int32)) + (4:Int32)) (MT_wrong a0) (MT_used a0) (MT_written a0) (MT_left a0))) fun q15 =>
              m_MT_escape_j273 n x1 q7 q15 (MT_mk (MT_text a0) (MT_kind a0) (MT_place a0) (MT_many a0) (MT_parent a0) (MT_power a0) (MT_first a0) (MT_next a0) (MT_name a0) (MT_from a0) (MT_characters a0) (MT_digits a0) (MT_minus a0) (MT_values a0) (MT_letters a0) ((x1 + (2:Int32)) + (4:Int32)) (MT_wrong a0) (MT_used a0) (MT_written a0) (MT_left a0))
            else
              m_MT_escape_j273 n x1 q7 (-1:Int32) (MT_mk (MT_text a0) (MT_kind a0) (MT_place a0) (MT_many a0) (MT_parent a0) (MT_power a0) (MT_first a0) (MT_next a0) (MT_name a0) (MT_from a0) (MT_characters a0) (MT_digits a0) (MT_minus a0) (MT_values a0) (MT_letters a0) ((x1 + (2:Int32)) + (4:Int32)) (MT_wrong a0) (MT_used a0) (MT_written a0) (MT_left a0))
          else
            m_MT_escape_j273 n x1 q7 (-1:Int32) (MT_mk (MT_text a0) (MT_kind a0) (MT_place a0) (MT_many a0) (MT_parent a0) (MT_power a0) (MT_first a0) (MT_next a0) (MT_name a0) (MT_from a0) (MT_characters a0) (MT_digits a0) (MT_minus a0) (MT_values a0) (MT_letters a0) ((x1 + (2:Int32)) + (4:Int32)) (MT_wrong a0) (MT_used a0) (MT_written a0) (MT_left a0))
      else
        o_bd (m_MT_bad x1 (MT_mk (MT_text a0) (MT_kind a0) (MT_place a0) (MT_many a0) (MT_parent a0) (MT_power a0) (MT_first a0) (MT_next a0) (MT_name a0) (MT_from a0) (MT_characters a0) (MT_digits a0) (MT_minus a0) (MT_values a0) (MT_letters a0) ((x1 + (2:Int32)) + (4:Int32)) (MT_wrong a0) (MT_used a0) (MT_written a0) (MT_left a0))) fun q17 =>
        o_gd (o_zb q17.1) <|
        some (q17.1, q17.2)
    else
      o_bd (m_MT_bad (x1 + (1:Int32)) (MT_mk (MT_text a0) (MT_kind a0) (MT_place a0) (MT_many a0) (MT_parent a0) (MT_power a0) (MT_first a0) (MT_next a0) (MT_name a0) (MT_from a0) (MT_characters a0) (MT_digits a0) (MT_minus a0) (MT_values a0) (MT_letters a0) (x1 + (2:Int32)) (MT_wrong a0) (MT_used a0) (MT_written a0) (MT_left a0))) fun q18 =>
      o_gd (o_zb q18.1) <|
      some (q18.1, q18.2)
  else
    o_bd (m_MT_put y0 x1 (MT_mk (MT_text a0) (MT_kind a0) (MT_place a0) (MT_many a0) (MT_parent a0) (MT_power a0) (MT_first a0) (MT_next a0) (MT_name a0) (MT_from a0) (MT_characters a0) (MT_digits a0) (MT_minus a0) (MT_values a0) (MT_letters a0) (x1 + (2:Int32)) (MT_wrong a0) (MT_used a0) (MT_written a0) (MT_left a0))) fun q19 =>
    o_gd (o_zb q19.1) <|
    some (q19.1, q19.2)
def m_MT_escape (n : Nat) (x1 : Int32) (a0 : SMT) : Option (Int32 × SMT) :=
  o_bd (m_MT_c (x1 + (1:Int32)) a0) fun q1 =>
  if q1 = (34:Int32) then
    m_MT_escape_j86 n x1 q1 q1 a0
  else
    if q1 = (92:Int32) then
      m_MT_escape_j86 n x1 q1 q1 a0
    else
      if q1 = (47:Int32) then
        m_MT_escape_j86 n x1 q1 q1 a0
      else
        if q1 = (98:Int32) then
          m_MT_escape_j86 n x1 q1 (8:Int32) a0
        else
          if q1 = (102:Int32) then
            m_MT_escape_j86 n x1 q1 (12:Int32) a0
          else
            if q1 = (110:Int32) then
              m_MT_escape_j86 n x1 q1 (10:Int32) a0
            else
              if q1 = (114:Int32) then
                m_MT_escape_j86 n x1 q1 (13:Int32) a0
              else
                if q1 = (116:Int32) then
                  m_MT_escape_j86 n x1 q1 (9:Int32) a0
                else
                  m_MT_escape_j86 n x1 q1 (-1:Int32) a0
def m_MT_wide_b105 (n : Nat) (x1 : Int32) (x3 : Int32) (a0 : SMT) (z : Int32 × Int32) : Option (Nat × Int32 × Int32) :=
  if x3 < z.2 then
    some (2, z.1, z.2)
  else
    o_bd (m_MT_c (x1 + z.2) a0) fun q2 =>
    o_bd (m_MM_in q2 (128:Int32) (191:Int32)) fun q3 =>
    if q3 = 0 then
      some (1, z.1, z.2)
    else
      o_bd (m_MT_c (x1 + z.2) a0) fun q4 =>
      o_nm ((z.1 <<< ((6:Int32) &&& 31)) ||| (q4 &&& (63:Int32))) fun x4_154 =>
      o_nm (z.2 + (1:Int32)) fun x5_156 =>
      some (0, x4_154, x5_156)
def m_MT_wide_j210 (n : Nat) (x1 : Int32) (x3 : Int32) (x4 : Int32) (a0 : SMT) : Option (Int32 × SMT) :=
  o_bd (m_MT_put x4 x1 (MT_mk (MT_text a0) (MT_kind a0) (MT_place a0) (MT_many a0) (MT_parent a0) (MT_power a0) (MT_first a0) (MT_next a0) (MT_name a0) (MT_from a0) (MT_characters a0) (MT_digits a0) (MT_minus a0) (MT_values a0) (MT_letters a0) ((MT_at a0) + (x3 + (1:Int32))) (MT_wrong a0) (MT_used a0) (MT_written a0) (MT_left a0))) fun q7 =>
  o_gd (o_zb q7.1) <|
  some (q7.1, q7.2)
def m_MT_wide_j204 (n : Nat) (x1 : Int32) (a0 : SMT) : Option (Int32 × SMT) :=
  o_bd (m_MT_bad x1 a0) fun q9 =>
  o_gd (o_zb q9.1) <|
  some (q9.1, q9.2)
def m_MT_wide_j187 (n : Nat) (x1 : Int32) (x3 : Int32) (x4 : Int32) (a0 : SMT) : Option (Int32 × SMT) :=
  if x3 = (3:Int32) then
    o_bd (m_MM_in x4 (65536:Int32) (1114111:Int32)) fun q8 =>
    if q8 = 0 then
      m_MT_wide_j204 n x1 a0
    else
      m_MT_wide_j210 n x1 x3 x4 a0
  else
    m_MT_wide_j210 n x1 x3 x4 a0
def m_MT_wide_j90 (n : Nat) (x1 : Int32) (x3 : Int32) (y0 : Int32) (a0 : SMT) : Option (Int32 × SMT) :=
  if x3 = 0 then
    o_bd (m_MT_bad x1 a0) fun q11 =>
    o_gd (o_zb q11.1) <|
    some (q11.1, q11.2)
  else
    o_bd (o_lp n (m_MT_wide_b105 n x1 x3 a0) (y0, (1:Int32))) fun q5 =>
    if q5.1 = 1 then
      o_bd (m_MT_bad x1 a0) fun q6 =>
      o_gd (o_zb q6.1) <|
      some (q6.1, q6.2)
    else
    if x3 = (2:Int32) then
      if q5.2.1 < (2048:Int32) then
        m_MT_wide_j204 n x1 a0
      else
        o_bd (m_MM_in q5.2.1 (55296:Int32) (57343:Int32)) fun q10 =>
        if q10 = 0 then
          m_MT_wide_j187 n x1 x3 q5.2.1 a0
        else
          m_MT_wide_j204 n x1 a0
    else
      m_MT_wide_j187 n x1 x3 q5.2.1 a0
def m_MT_wide_j61 (n : Nat) (x1 : Int32) (x2 : Int32) (y0 : Int32) (a0 : SMT) : Option (Int32 × SMT) :=
  if y0 = (1:Int32) then
    m_MT_wide_j90 n x1 y0 (x2 &&& (31:Int32)) a0
  else
    if y0 = (2:Int32) then
      m_MT_wide_j90 n x1 y0 (x2 &&& (15:Int32)) a0
    else
      m_MT_wide_j90 n x1 y0 (x2 &&& (7:Int32)) a0
def m_MT_wide_j42 (n : Nat) (x1 : Int32) (x2 : Int32) (a0 : SMT) : Option (Int32 × SMT) :=
  if x2 < (240:Int32) then
    m_MT_wide_j61 n x1 x2 (0:Int32) a0
  else
    if (245:Int32) ≤ x2 then
      m_MT_wide_j61 n x1 x2 (0:Int32) a0
    else
      m_MT_wide_j61 n x1 x2 (3:Int32) a0
def m_MT_wide_j24 (n : Nat) (x1 : Int32) (x2 : Int32) (a0 : SMT) : Option (Int32 × SMT) :=
  if x2 < (224:Int32) then
    m_MT_wide_j42 n x1 x2 a0
  else
    if (240:Int32) ≤ x2 then
      m_MT_wide_j42 n x1 x2 a0
    else
      m_MT_wide_j61 n x1 x2 (2:Int32) a0
def m_MT_wide (n : Nat) (x1 : Int32) (a0 : SMT) : Option (Int32 × SMT) :=
  o_bd (m_MT_c x1 a0) fun q1 =>
  if q1 < (194:Int32) then
    m_MT_wide_j24 n x1 q1 a0
  else
    if (224:Int32) ≤ q1 then
      m_MT_wide_j24 n x1 q1 a0
    else
      m_MT_wide_j61 n x1 q1 (1:Int32) a0
def m_MT_string_b27 (n : Nat) (x2 : Int32) (z : SMT) : Option (Nat × SMT) :=
  o_bd (m_MT_c (MT_at z) z) fun q2 =>
  o_nm (MT_at z) fun x4_40 =>
  if (32:Int32) ≤ q2 then
    if q2 = (34:Int32) then
      some (2, z)
    else
      if q2 = (92:Int32) then
        o_bd (m_MT_escape n x4_40 z) fun q5 =>
        if q5.1 = 0 then
          some (3, q5.2)
        else
          some (0, q5.2)
      else
        if (128:Int32) ≤ q2 then
          o_bd (m_MT_wide n x4_40 z) fun q3 =>
          if q3.1 = 0 then
            some (5, q3.2)
          else
            some (0, q3.2)
        else
          o_bd (m_MT_put q2 x4_40 z) fun q4 =>
          if q4.1 = 0 then
            some (4, q4.2)
          else
            some (0, (MT_mk (MT_text q4.2) (MT_kind q4.2) (MT_place q4.2) (MT_many q4.2) (MT_parent q4.2) (MT_power q4.2) (MT_first q4.2) (MT_next q4.2) (MT_name q4.2) (MT_from q4.2) (MT_characters q4.2) (MT_digits q4.2) (MT_minus q4.2) (MT_values q4.2) (MT_letters q4.2) ((MT_at q4.2) + (1:Int32)) (MT_wrong q4.2) (MT_used q4.2) (MT_written q4.2) (MT_left q4.2)))
  else
    some (1, z)
def m_MT_string (n : Nat) (x1 : Int32) (a0 : SMT) : Option (Int32 × SMT) :=
  o_bd (m_MT_fresh x1 (4:Int32) a0) fun q1 =>
  o_gd (o_in q1.1 1000) <|
  o_bd (o_lp n (m_MT_string_b27 n q1.1) ((MT_mk (MT_text q1.2) (MT_kind q1.2) (MT_place q1.2) (MT_many q1.2) (MT_parent q1.2) (MT_power q1.2) (MT_first q1.2) (MT_next q1.2) (MT_name q1.2) (upd (MT_from q1.2) q1.1.toNatClampNeg (MT_used q1.2)) (MT_characters q1.2) (MT_digits q1.2) (MT_minus q1.2) (MT_values q1.2) (MT_letters q1.2) ((MT_at q1.2) + (1:Int32)) (MT_wrong q1.2) (MT_used q1.2) (MT_written q1.2) (MT_left q1.2)))) fun q6 =>
  if q6.1 = 1 then
    o_bd (m_MT_bad (MT_at q6.2) q6.2) fun q7 =>
    o_gd (o_zb q7.1) <|
    some (q7.1, q7.2)
  else
  if q6.1 = 2 then
    o_gd (o_in q1.1 1000) <|
    o_gd (o_in q1.1 1000) <|
    some ((1:Int32), (MT_mk (MT_text q6.2) (MT_kind q6.2) (MT_place q6.2) (upd (MT_many q6.2) q1.1.toNatClampNeg ((MT_used q6.2) - ((MT_from q6.2) q1.1.toNatClampNeg))) (MT_parent q6.2) (MT_power q6.2) (MT_first q6.2) (MT_next q6.2) (MT_name q6.2) (MT_from q6.2) (MT_characters q6.2) (MT_digits q6.2) (MT_minus q6.2) (MT_values q6.2) (MT_letters q6.2) ((MT_at q6.2) + (1:Int32)) (MT_wrong q6.2) (MT_used q6.2) (MT_written q6.2) (MT_left q6.2)))
  else
  if q6.1 = 3 then
    some ((0:Int32), q6.2)
  else
  if q6.1 = 4 then
    some ((0:Int32), q6.2)
  else
  some ((0:Int32), q6.2)
def m_MT_number_b118 (n : Nat) (x2 : Int32) (x3 : Int32) (x5 : Int32) (x6 : Int32) (z : Int32 × SMT) : Option (Nat × Int32 × SMT) :=
  o_nm (z.1 + (1:Int32)) fun x4_128 =>
  o_bd (m_MT_c (MT_at z.2) (MT_mk (MT_text z.2) (MT_kind z.2) (MT_place z.2) (MT_many z.2) (MT_parent z.2) (MT_power z.2) (MT_first z.2) (MT_next z.2) (MT_name z.2) (MT_from z.2) (MT_characters z.2) (MT_digits z.2) (MT_minus z.2) (MT_values z.2) (MT_letters z.2) ((MT_at z.2) + (1:Int32)) (MT_wrong z.2) (MT_used z.2) (MT_written z.2) (MT_left z.2))) fun q6 =>
  o_gd (o_in ((MT_written z.2) + z.1) 8192) <|
  if x6 = 0 then
    o_bd (m_MT_c ((MT_at z.2) + (1:Int32)) (MT_mk (MT_text z.2) (MT_kind z.2) (MT_place z.2) (MT_many z.2) (MT_parent z.2) (MT_power z.2) (MT_first z.2) (MT_next z.2) (MT_name z.2) (MT_from z.2) (MT_characters z.2) (upd (MT_digits z.2) ((MT_written z.2) + z.1).toNatClampNeg (q6 - (48:Int32))) (MT_minus z.2) (MT_values z.2) (MT_letters z.2) ((MT_at z.2) + (1:Int32)) (MT_wrong z.2) (MT_used z.2) (MT_written z.2) (MT_left z.2))) fun q7 =>
    o_bd (m_MM_in q7 (48:Int32) (57:Int32)) fun q8 =>
    if q8 = 0 then
      some (1, x4_128, (MT_mk (MT_text z.2) (MT_kind z.2) (MT_place z.2) (MT_many z.2) (MT_parent z.2) (MT_power z.2) (MT_first z.2) (MT_next z.2) (MT_name z.2) (MT_from z.2) (MT_characters z.2) (upd (MT_digits z.2) ((MT_written z.2) + z.1).toNatClampNeg (q6 - (48:Int32))) (MT_minus z.2) (MT_values z.2) (MT_letters z.2) ((MT_at z.2) + (1:Int32)) (MT_wrong z.2) (MT_used z.2) (MT_written z.2) (MT_left z.2)))
    else
      some (0, x4_128, (MT_mk (MT_text z.2) (MT_kind z.2) (MT_place z.2) (MT_many z.2) (MT_parent z.2) (MT_power z.2) (MT_first z.2) (MT_next z.2) (MT_name z.2) (MT_from z.2) (MT_characters z.2) (upd (MT_digits z.2) ((MT_written z.2) + z.1).toNatClampNeg (q6 - (48:Int32))) (MT_minus z.2) (MT_values z.2) (MT_letters z.2) ((MT_at z.2) + (1:Int32)) (MT_wrong z.2) (MT_used z.2) (MT_written z.2) (MT_left z.2)))
  else
    some (1, x4_128, (MT_mk (MT_text z.2) (MT_kind z.2) (MT_place z.2) (MT_many z.2) (MT_parent z.2) (MT_power z.2) (MT_first z.2) (MT_next z.2) (MT_name z.2) (MT_from z.2) (MT_characters z.2) (upd (MT_digits z.2) ((MT_written z.2) + z.1).toNatClampNeg (q6 - (48:Int32))) (MT_minus z.2) (MT_values z.2) (MT_letters z.2) ((MT_at z.2) + (1:Int32)) (MT_wrong z.2) (MT_used z.2) (MT_written z.2) (MT_left z.2)))
def m_MT_number_j479 (n : Nat) (x3 : Int32) (a0 : SMT) : Option (Int32 × SMT) :=
  o_bd (m_MT_bad x3 a0) fun q12 =>
  o_gd (o_zb q12.1) <|
  some (q12.1, q12.2)
def m_MT_number_b488 (n : Nat) (x2 : Int32) (x4 : Int32) (x5 : Int32) (x7 : Int32) (a0 : SMT) (z : Int32) : Option (Nat × Int32) :=
  if x4 ≤ z then
    some (1, z)
  else
    o_gd (o_in ((MT_written a0) + z) 8192) <|
    if ((MT_digits a0) ((MT_written a0) + z).toNatClampNeg) = 0 then
      o_nm (z + (1:Int32)) fun x9_510 =>
      some (0, x9_510)
    else
      some (1, z)
def m_MT_number_b516 (n : Nat) (x2 : Int32) (x7 : Int32) (x9 : Int32) (a0 : SMT) (z : Int32 × Int32) : Option (Nat × Int32 × Int32) :=
  if z.1 ≤ x9 then
    some (1, z.1, z.2)
  else
    o_gd (o_in (((MT_written a0) + z.1) - (1:Int32)) 8192) <|
    if ((MT_digits a0) (((MT_written a0) + z.1) - (1:Int32)).toNatClampNeg) = 0 then
      o_nm (z.1 + (-1:Int32)) fun x4_540 =>
      o_nm (z.2 + (-1:Int32)) fun x5_543 =>
      some (0, x4_540, x5_543)
    else
      some (1, z.1, z.2)
def m_MT_number_j613 (n : Nat) (x4 : Int32) (a0 : SMT) : Option (Int32 × SMT) :=
  some ((1:Int32), (MT_mk (MT_text a0) (MT_kind a0) (MT_place a0) (MT_many a0) (MT_parent a0) (MT_power a0) (MT_first a0) (MT_next a0) (MT_name a0) (MT_from a0) (MT_characters a0) (MT_digits a0) (MT_minus a0) (MT_values a0) (MT_letters a0) (MT_at a0) (MT_wrong a0) (MT_used a0) ((MT_written a0) + x4) (MT_left a0)))
def m_MT_number_j596 (n : Nat) (x2 : Int32) (x4 : Int32) (y1 : Int32) (y2 : Int32) (a0 : SMT) : Option (Int32 × SMT) :=
  o_gd (o_in y1 1000) <|
  o_gd (o_in x2 1000) <|
  if ((MT_many a0) x2.toNatClampNeg) = 0 then
    o_gd (o_in x2 1000) <|
    m_MT_number_j613 n x4 (MT_mk (MT_text a0) (MT_kind a0) (MT_place a0) (MT_many a0) (MT_parent a0) (upd (MT_power a0) y1.toNatClampNeg y2) (MT_first a0) (MT_next a0) (MT_name a0) (MT_from a0) (MT_characters a0) (MT_digits a0) (upd (MT_minus a0) x2.toNatClampNeg (vp_nar .boolean (0:Int32))) (MT_values a0) (MT_letters a0) (MT_at a0) (MT_wrong a0) (MT_used a0) (MT_written a0) (MT_left a0))
  else
    m_MT_number_j613 n x4 (MT_mk (MT_text a0) (MT_kind a0) (MT_place a0) (MT_many a0) (MT_parent a0) (upd (MT_power a0) y1.toNatClampNeg y2) (MT_first a0) (MT_next a0) (MT_name a0) (MT_from a0) (MT_characters a0) (MT_digits a0) (MT_minus a0) (MT_values a0) (MT_letters a0) (MT_at a0) (MT_wrong a0) (MT_used a0) (MT_written a0) (MT_left a0))
def m_MT_number_j549 (n : Nat) (x2 : Int32) (x4 : Int32) (x5 : Int32) (x7 : Int32) (x9 : Int32) (a0 : SMT) : Option (Int32 × SMT) :=
  o_gd (o_in x2 1000) <|
  o_gd (o_in x2 1000) <|
  o_gd (o_in x2 1000) <|
  if ((upd (MT_many a0) x2.toNatClampNeg (x4 - x9)) x2.toNatClampNeg) = 0 then
    m_MT_number_j596 n x2 x4 x2 (0:Int32) (MT_mk (MT_text a0) (MT_kind a0) (MT_place a0) (upd (MT_many a0) x2.toNatClampNeg (x4 - x9)) (MT_parent a0) (MT_power a0) (MT_first a0) (MT_next a0) (MT_name a0) (upd (MT_from a0) x2.toNatClampNeg ((MT_written a0) + x9)) (MT_characters a0) (MT_digits a0) (MT_minus a0) (MT_values a0) (MT_letters a0) (MT_at a0) (MT_wrong a0) (MT_used a0) (MT_written a0) (MT_left a0))
  else
    m_MT_number_j596 n x2 x4 x2 (x7 - x5) (MT_mk (MT_text a0) (MT_kind a0) (MT_place a0) (upd (MT_many a0) x2.toNatClampNeg (x4 - x9)) (MT_parent a0) (MT_power a0) (MT_first a0) (MT_next a0) (MT_name a0) (upd (MT_from a0) x2.toNatClampNeg ((MT_written a0) + x9)) (MT_characters a0) (MT_digits a0) (MT_minus a0) (MT_values a0) (MT_letters a0) (MT_at a0) (MT_wrong a0) (MT_used a0) (MT_written a0) (MT_left a0))
def m_MT_number_j466 (n : Nat) (x2 : Int32) (x3 : Int32) (x4 : Int32) (x5 : Int32) (x7 : Int32) (x8 : Int32) (a0 : SMT) : Option (Int32 × SMT) :=
  if (60:Int32) < x4 then
    m_MT_number_j479 n x3 a0
  else
    if x8 ≤ (3:Int32) then
      o_bd (o_lp n (m_MT_number_b488 n x2 x4 x5 x7 a0) ((0:Int32))) fun q13 =>
      o_bd (o_lp n (m_MT_number_b516 n x2 x7 q13.2 a0) (x4, x5)) fun q14 =>
      m_MT_number_j549 n x2 q14.2.1 q14.2.2 x7 q13.2 a0
    else
      m_MT_number_j479 n x3 a0
def m_MT_number_j440 (n : Nat) (x2 : Int32) (x3 : Int32) (x4 : Int32) (x5 : Int32) (x7 : Int32) (x8 : Int32) (x9 : Int32) (a0 : SMT) : Option (Nat × Int32 × Int32 × SMT) :=
  o_nm (x8 + (1:Int32)) fun x8_450 =>
  some (0, x7, x8_450, (MT_mk (MT_text a0) (MT_kind a0) (MT_place a0) (MT_many a0) (MT_parent a0) (MT_power a0) (MT_first a0) (MT_next a0) (MT_name a0) (MT_from a0) (MT_characters a0) (MT_digits a0) (MT_minus a0) (MT_values a0) (MT_letters a0) ((MT_at a0) + (1:Int32)) (MT_wrong a0) (MT_used a0) (MT_written a0) (MT_left a0)))
def m_MT_number_b396 (n : Nat) (x2 : Int32) (x3 : Int32) (x4 : Int32) (x5 : Int32) (x9 : Int32) (z : Int32 × Int32 × SMT) : Option (Nat × Int32 × Int32 × SMT) :=
  o_bd (m_MT_c (MT_at z.2.2) z.2.2) fun q19 =>
  o_bd (m_MM_in q19 (48:Int32) (57:Int32)) fun q20 =>
  if q20 = 0 then
    some (1, z.1, z.2.1, z.2.2)
  else
    if (100000:Int32) ≤ z.1 then
      m_MT_number_j440 n x2 x3 x4 x5 z.1 z.2.1 x9 z.2.2
    else
      o_bd (m_MT_c (MT_at z.2.2) z.2.2) fun q21 =>
      o_nm ((((10:Int32) * z.1) + q21) - (48:Int32)) fun x7_438 =>
      m_MT_number_j440 n x2 x3 x4 x5 x7_438 z.2.1 x9 z.2.2
def m_MT_number_j369 (n : Nat) (x2 : Int32) (x3 : Int32) (x4 : Int32) (x5 : Int32) (x7 : Int32) (x8 : Int32) (x9 : Int32) (a0 : SMT) : Option (Int32 × SMT) :=
  o_bd (m_MT_c (MT_at a0) a0) fun q17 =>
  o_bd (m_MM_in q17 (48:Int32) (57:Int32)) fun q18 =>
  if q18 = 0 then
    o_bd (m_MT_bad (MT_at a0) a0) fun q23 =>
    o_gd (o_zb q23.1) <|
    some (q23.1, q23.2)
  else
    o_bd (o_lp n (m_MT_number_b396 n x2 x3 x4 x5 x9) (x7, x8, a0)) fun q22 =>
    if x9 = 0 then
      m_MT_number_j466 n x2 x3 x4 x5 q22.2.1 q22.2.2.1 q22.2.2.2
    else
      o_nm (-q22.2.1) fun x7_464 =>
      m_MT_number_j466 n x2 x3 x4 x5 x7_464 q22.2.2.1 q22.2.2.2
def m_MT_number_j359 (n : Nat) (x2 : Int32) (x3 : Int32) (x4 : Int32) (x5 : Int32) (x7 : Int32) (x8 : Int32) (x9 : Int32) (a0 : SMT) : Option (Int32 × SMT) :=
  m_MT_number_j369 n x2 x3 x4 x5 x7 x8 x9 (MT_mk (MT_text a0) (MT_kind a0) (MT_place a0) (MT_many a0) (MT_parent a0) (MT_power a0) (MT_first a0) (MT_next a0) (MT_name a0) (MT_from a0) (MT_characters a0) (MT_digits a0) (MT_minus a0) (MT_values a0) (MT_letters a0) ((MT_at a0) + (1:Int32)) (MT_wrong a0) (MT_used a0) (MT_written a0) (MT_left a0))
def m_MT_number_j331 (n : Nat) (x2 : Int32) (x3 : Int32) (x4 : Int32) (x5 : Int32) (x7 : Int32) (x8 : Int32) (y0 : Int32) (a0 : SMT) : Option (Int32 × SMT) :=
  o_bd (m_MT_c (MT_at a0) a0) fun q16 =>
  if q16 = (45:Int32) then
    m_MT_number_j359 n x2 x3 x4 x5 x7 x8 y0 a0
  else
    o_bd (m_MT_c (MT_at a0) a0) fun q24 =>
    if q24 = (43:Int32) then
      m_MT_number_j359 n x2 x3 x4 x5 x7 x8 y0 a0
    else
      m_MT_number_j369 n x2 x3 x4 x5 x7 x8 y0 a0
def m_MT_number_j281 (n : Nat) (x2 : Int32) (x3 : Int32) (x4 : Int32) (x5 : Int32) (a0 : SMT) : Option (Int32 × SMT) :=
  o_bd (m_MT_c (MT_at a0) a0) fun q11 =>
  if (q11 ||| (32:Int32)) = (101:Int32) then
    o_bd (m_MT_c ((MT_at a0) + (1:Int32)) (MT_mk (MT_text a0) (MT_kind a0) (MT_place a0) (MT_many a0) (MT_parent a0) (MT_power a0) (MT_first a0) (MT_next a0) (MT_name a0) (MT_from a0) (MT_characters a0) (MT_digits a0) (MT_minus a0) (MT_values a0) (MT_letters a0) ((MT_at a0) + (1:Int32)) (MT_wrong a0) (MT_used a0) (MT_written a0) (MT_left a0))) fun q15 =>
    if q15 = (45:Int32) then
      m_MT_number_j331 n x2 x3 x4 x5 (0:Int32) (0:Int32) (1:Int32) (MT_mk (MT_text a0) (MT_kind a0) (MT_place a0) (MT_many a0) (MT_parent a0) (MT_power a0) (MT_first a0) (MT_next a0) (MT_name a0) (MT_from a0) (MT_characters a0) (MT_digits a0) (MT_minus a0) (MT_values a0) (MT_letters a0) ((MT_at a0) + (1:Int32)) (MT_wrong a0) (MT_used a0) (MT_written a0) (MT_left a0))
    else
      m_MT_number_j331 n x2 x3 x4 x5 (0:Int32) (0:Int32) (0:Int32) (MT_mk (MT_text a0) (MT_kind a0) (MT_place a0) (MT_many a0) (MT_parent a0) (MT_power a0) (MT_first a0) (MT_next a0) (MT_name a0) (MT_from a0) (MT_characters a0) (MT_digits a0) (MT_minus a0) (MT_values a0) (MT_letters a0) ((MT_at a0) + (1:Int32)) (MT_wrong a0) (MT_used a0) (MT_written a0) (MT_left a0))
  else
    m_MT_number_j466 n x2 x3 x4 x5 (0:Int32) (0:Int32) a0
def m_MT_number_b224 (n : Nat) (x2 : Int32) (x3 : Int32) (z : Int32 × Int32 × SMT) : Option (Nat × Int32 × Int32 × SMT) :=
  o_bd (m_MT_c (MT_at z.2.2) z.2.2) fun q27 =>
  o_bd (m_MM_in q27 (48:Int32) (57:Int32)) fun q28 =>
  if q28 = 0 then
    some (1, z.1, z.2.1, z.2.2)
  else
    o_nm (z.1 + (1:Int32)) fun x4_252 =>
    o_bd (m_MT_c (MT_at z.2.2) (MT_mk (MT_text z.2.2) (MT_kind z.2.2) (MT_place z.2.2) (MT_many z.2.2) (MT_parent z.2.2) (MT_power z.2.2) (MT_first z.2.2) (MT_next z.2.2) (MT_name z.2.2) (MT_from z.2.2) (MT_characters z.2.2) (MT_digits z.2.2) (MT_minus z.2.2) (MT_values z.2.2) (MT_letters z.2.2) ((MT_at z.2.2) + (1:Int32)) (MT_wrong z.2.2) (MT_used z.2.2) (MT_written z.2.2) (MT_left z.2.2))) fun q29 =>
    o_gd (o_in ((MT_written z.2.2) + z.1) 8192) <|
    o_nm (z.2.1 + (1:Int32)) fun x5_275 =>
    some (0, x4_252, x5_275, (MT_mk (MT_text z.2.2) (MT_kind z.2.2) (MT_place z.2.2) (MT_many z.2.2) (MT_parent z.2.2) (MT_power z.2.2) (MT_first z.2.2) (MT_next z.2.2) (MT_name z.2.2) (MT_from z.2.2) (MT_characters z.2.2) (upd (MT_digits z.2.2) ((MT_written z.2.2) + z.1).toNatClampNeg (q29 - (48:Int32))) (MT_minus z.2.2) (MT_values z.2.2) (MT_letters z.2.2) ((MT_at z.2.2) + (1:Int32)) (MT_wrong z.2.2) (MT_used z.2.2) (MT_written z.2.2) (MT_left z.2.2)))
def m_MT_number_j174 (n : Nat) (x2 : Int32) (x3 : Int32) (x4 : Int32) (x5 : Int32) (a0 : SMT) : Option (Int32 × SMT) :=
  o_bd (m_MT_c (MT_at a0) a0) fun q10 =>
  if q10 = (46:Int32) then
    o_bd (m_MT_c ((MT_at a0) + (1:Int32)) (MT_mk (MT_text a0) (MT_kind a0) (MT_place a0) (MT_many a0) (MT_parent a0) (MT_power a0) (MT_first a0) (MT_next a0) (MT_name a0) (MT_from a0) (MT_characters a0) (MT_digits a0) (MT_minus a0) (MT_values a0) (MT_letters a0) ((MT_at a0) + (1:Int32)) (MT_wrong a0) (MT_used a0) (MT_written a0) (MT_left a0))) fun q25 =>
    o_bd (m_MM_in q25 (48:Int32) (57:Int32)) fun q26 =>
    if q26 = 0 then
      o_bd (m_MT_bad ((MT_at a0) + (1:Int32)) (MT_mk (MT_text a0) (MT_kind a0) (MT_place a0) (MT_many a0) (MT_parent a0) (MT_power a0) (MT_first a0) (MT_next a0) (MT_name a0) (MT_from a0) (MT_characters a0) (MT_digits a0) (MT_minus a0) (MT_values a0) (MT_letters a0) ((MT_at a0) + (1:Int32)) (MT_wrong a0) (MT_used a0) (MT_written a0) (MT_left a0))) fun q31 =>
      o_gd (o_zb q31.1) <|
      some (q31.1, q31.2)
    else
      o_bd (o_lp n (m_MT_number_b224 n x2 x3) (x4, x5, (MT_mk (MT_text a0) (MT_kind a0) (MT_place a0) (MT_many a0) (MT_parent a0) (MT_power a0) (MT_first a0) (MT_next a0) (MT_name a0) (MT_from a0) (MT_characters a0) (MT_digits a0) (MT_minus a0) (MT_values a0) (MT_letters a0) ((MT_at a0) + (1:Int32)) (MT_wrong a0) (MT_used a0) (MT_written a0) (MT_left a0)))) fun q30 =>
      m_MT_number_j281 n x2 x3 q30.2.1 q30.2.2.1 q30.2.2.2
  else
    m_MT_number_j281 n x2 x3 x4 x5 a0
def m_MT_number_j71 (n : Nat) (x2 : Int32) (x3 : Int32) (x4 : Int32) (x5 : Int32) (a0 : SMT) : Option (Int32 × SMT) :=
  o_bd (m_MT_c (MT_at a0) a0) fun q3 =>
  o_bd (m_MM_in q3 (48:Int32) (57:Int32)) fun q4 =>
  if q4 = 0 then
    o_bd (m_MT_bad (MT_at a0) a0) fun q33 =>
    o_gd (o_zb q33.1) <|
    some (q33.1, q33.2)
  else
    o_bd (m_MT_c (MT_at a0) a0) fun q5 =>
    if q5 = (48:Int32) then
      o_bd (o_lp n (m_MT_number_b118 n x2 x3 x5 (1:Int32)) (x4, a0)) fun q32 =>
      m_MT_number_j174 n x2 x3 q32.2.1 x5 q32.2.2
    else
      o_bd (o_lp n (m_MT_number_b118 n x2 x3 x5 (0:Int32)) (x4, a0)) fun q9 =>
      m_MT_number_j174 n x2 x3 q9.2.1 x5 q9.2.2
def m_MT_number_j51 (n : Nat) (x2 : Int32) (x3 : Int32) (x4 : Int32) (x5 : Int32) (y1 : Int32) (y2 : Int32) (a0 : SMT) : Option (Int32 × SMT) :=
  o_gd (o_in y1 1000) <|
  o_gd (o_in x2 1000) <|
  if ((upd (MT_minus a0) y1.toNatClampNeg (vp_nar .boolean y2)) x2.toNatClampNeg) = 0 then
    m_MT_number_j71 n x2 x3 x4 x5 (MT_mk (MT_text a0) (MT_kind a0) (MT_place a0) (MT_many a0) (MT_parent a0) (MT_power a0) (MT_first a0) (MT_next a0) (MT_name a0) (MT_from a0) (MT_characters a0) (MT_digits a0) (upd (MT_minus a0) y1.toNatClampNeg (vp_nar .boolean y2)) (MT_values a0) (MT_letters a0) (MT_at a0) (MT_wrong a0) (MT_used a0) (MT_written a0) (MT_left a0))
  else
    m_MT_number_j71 n x2 x3 x4 x5 (MT_mk (MT_text a0) (MT_kind a0) (MT_place a0) (MT_many a0) (MT_parent a0) (MT_power a0) (MT_first a0) (MT_next a0) (MT_name a0) (MT_from a0) (MT_characters a0) (MT_digits a0) (upd (MT_minus a0) y1.toNatClampNeg (vp_nar .boolean y2)) (MT_values a0) (MT_letters a0) ((MT_at a0) + (1:Int32)) (MT_wrong a0) (MT_used a0) (MT_written a0) (MT_left a0))
def m_MT_number (n : Nat) (x1 : Int32) (a0 : SMT) : Option (Int32 × SMT) :=
  o_bd (m_MT_fresh x1 (3:Int32) a0) fun q1 =>
  o_nm (MT_at q1.2) fun x3_11 =>
  o_gd (o_in q1.1 1000) <|
  o_bd (m_MT_c (MT_at q1.2) (MT_mk (MT_text q1.2) (MT_kind q1.2) (MT_place q1.2) (MT_many q1.2) (MT_parent q1.2) (MT_power q1.2) (MT_first q1.2) (MT_next q1.2) (MT_name q1.2) (upd (MT_from q1.2) q1.1.toNatClampNeg (MT_written q1.2)) (MT_characters q1.2) (MT_digits q1.2) (MT_minus q1.2) (MT_values q1.2) (MT_letters q1.2) (MT_at q1.2) (MT_wrong q1.2) (MT_used q1.2) (MT_written q1.2) (MT_left q1.2))) fun q2 =>
  if q2 = (45:Int32) then
    m_MT_number_j51 n q1.1 x3_11 (0:Int32) (0:Int32) q1.1 (1:Int32) (MT_mk (MT_text q1.2) (MT_kind q1.2) (MT_place q1.2) (MT_many q1.2) (MT_parent q1.2) (MT_power q1.2) (MT_first q1.2) (MT_next q1.2) (MT_name q1.2) (upd (MT_from q1.2) q1.1.toNatClampNeg (MT_written q1.2)) (MT_characters q1.2) (MT_digits q1.2) (MT_minus q1.2) (MT_values q1.2) (MT_letters q1.2) (MT_at q1.2) (MT_wrong q1.2) (MT_used q1.2) (MT_written q1.2) (MT_left q1.2))
  else
    m_MT_number_j51 n q1.1 x3_11 (0:Int32) (0:Int32) q1.1 (0:Int32) (MT_mk (MT_text q1.2) (MT_kind q1.2) (MT_place q1.2) (MT_many q1.2) (MT_parent q1.2) (MT_power q1.2) (MT_first q1.2) (MT_next q1.2) (MT_name q1.2) (upd (MT_from q1.2) q1.1.toNatClampNeg (MT_written q1.2)) (MT_characters q1.2) (MT_digits q1.2) (MT_minus q1.2) (MT_values q1.2) (MT_letters q1.2) (MT_at q1.2) (MT_wrong q1.2) (MT_used q1.2) (MT_written q1.2) (MT_left q1.2))
def m_MT_begins (x0 : Int32) : Option (Int32) :=
  if x0 = (110:Int32) then
    some (1:Int32)
  else
    if x0 = (116:Int32) then
      some (1:Int32)
    else
      if x0 = (102:Int32) then
        some (1:Int32)
      else
        if x0 = (34:Int32) then
          some (1:Int32)
        else
          if x0 = (91:Int32) then
            some (1:Int32)
          else
            if x0 = (123:Int32) then
              some (1:Int32)
            else
              if x0 = (45:Int32) then
                some (1:Int32)
              else
                o_bd (m_MM_in x0 (48:Int32) (57:Int32)) fun q1 =>
                if q1 = 0 then
                  some (0:Int32)
                else
                  some (1:Int32)
def m_MT_same_b20 (n : Nat) (x1 : Int32) (x3 : Int32) (a0 : SMT) (a2 : SMT) (z : Int32) : Option (Nat × Int32) :=
  o_gd (o_in x1 1000) <|
  if ((MT_many a0) x1.toNatClampNeg) ≤ z then
    some (2, z)
  else
    o_gd (o_in x1 1000) <|
    o_gd (o_in (((MT_from a0) x1.toNatClampNeg) + z) 4000) <|
    o_gd (o_in x3 1000) <|
    o_gd (o_in (((MT_from a2) x3.toNatClampNeg) + z) 4000) <|
    if ((MT_characters a0) (((MT_from a0) x1.toNatClampNeg) + z).toNatClampNeg) = ((MT_characters a2) (((MT_from a2) x3.toNatClampNeg) + z).toNatClampNeg) then
      o_nm (z + (1:Int32)) fun x4_64 =>
      some (0, x4_64)
    else
      some (1, z)
def m_MT_same (n : Nat) (x1 : Int32) (x3 : Int32) (a0 : SMT) (a2 : SMT) : Option (Int32) :=
  o_gd (o_in x1 1000) <|
  o_gd (o_in x3 1000) <|
  if ((MT_many a0) x1.toNatClampNeg) = ((MT_many a2) x3.toNatClampNeg) then
    o_bd (o_lp n (m_MT_same_b20 n x1 x3 a0 a2) ((0:Int32))) fun q1 =>
    if q1.1 = 1 then
      some (0:Int32)
    else
    some (1:Int32)
  else
    some (0:Int32)
def m_MT_object_b127 (n : Nat) (rec : Int32 → Int32 → SMT → Option (Int32 × SMT)) (x2 : Int32) (x3 : Int32) (x4 : Int32) (x5 : Int32) (x6 : Int32) (a0 : SMT) (z : Int32) : Option (Nat × Int32) :=
  if z < 0 then
    some (2, z)
  else
    o_gd (o_in z 1000) <|
    o_bd (m_MT_same n ((MT_name a0) z.toNatClampNeg) x6 a0 a0) fun q7 =>
    if q7 = 0 then
      o_gd (o_in z 1000) <|
      o_nm ((MT_next a0) z.toNatClampNeg) fun x7_163 =>
      some (0, x7_163)
    else
      some (1, z)
def m_MT_object_j261 (n : Nat) (rec : Int32 → Int32 → SMT → Option (Int32 × SMT)) (x2 : Int32) (x3 : Int32) (x7 : Int32) (a0 : SMT) : Option (Nat × Int32 × Int32 × SMT) :=
  o_gd (o_in x3 1000) <|
  o_gd (o_in x3 1000) <|
  o_bd (m_MT_blanks n (MT_mk (MT_text a0) (MT_kind a0) (MT_place a0) (upd (MT_many a0) x3.toNatClampNeg (((MT_many a0) x3.toNatClampNeg) + (1:Int32))) (MT_parent a0) (MT_power a0) (MT_first a0) (MT_next a0) (MT_name a0) (MT_from a0) (MT_characters a0) (MT_digits a0) (MT_minus a0) (MT_values a0) (MT_letters a0) (MT_at a0) (MT_wrong a0) (MT_used a0) (MT_written a0) (MT_left a0))) fun q13 =>
  o_bd (m_MT_c (MT_at q13) q13) fun q14 =>
  if q14 = (125:Int32) then
    some (6, x7, (0:Int32), q13)
  else
    o_bd (m_MT_c (MT_at q13) q13) fun q15 =>
    if q15 = (44:Int32) then
      some (0, x7, (0:Int32), (MT_mk (MT_text q13) (MT_kind q13) (MT_place q13) (MT_many q13) (MT_parent q13) (MT_power q13) (MT_first q13) (MT_next q13) (MT_name q13) (MT_from q13) (MT_characters q13) (MT_digits q13) (MT_minus q13) (MT_values q13) (MT_letters q13) ((MT_at q13) + (1:Int32)) (MT_wrong q13) (MT_used q13) (MT_written q13) (MT_left q13)))
    else
      some (7, x7, (0:Int32), q13)
def m_MT_object_b50 (n : Nat) (rec : Int32 → Int32 → SMT → Option (Int32 × SMT)) (x2 : Int32) (x3 : Int32) (z : Int32 × Int32 × SMT) : Option (Nat × Int32 × Int32 × SMT) :=
  o_bd (m_MT_blanks n z.2.2) fun q4 =>
  o_bd (m_MT_c (MT_at q4) q4) fun q5 =>
  if q5 = (34:Int32) then
    o_gd (o_in x3 1000) <|
    if ((MT_many q4) x3.toNatClampNeg) = (60:Int32) then
      some (1, z.1, (0:Int32), q4)
    else
      if (MT_values q4) = (1000:Int32) then
        some (1, z.1, (0:Int32), q4)
      else
        o_nm (MT_at q4) fun x5_101 =>
        o_nm (MT_values q4) fun x6_107 =>
        o_bd (m_MT_string n x3 q4) fun q6 =>
        if q6.1 = 0 then
          some (2, z.1, x5_101, q6.2)
        else
          o_gd (o_in x3 1000) <|
          o_nm ((MT_first q6.2) x3.toNatClampNeg) fun x7_125 =>
          o_bd (o_lp n (m_MT_object_b127 n rec x2 x3 z.1 x5_101 x6_107 q6.2) (x7_125)) fun q8 =>
          if q8.1 = 1 then
            some (3, z.1, x5_101, q6.2)
          else
          o_bd (m_MT_blanks n q6.2) fun q9 =>
          o_bd (m_MT_c (MT_at q9) q9) fun q10 =>
          if q10 = (58:Int32) then
            o_bd (m_MT_blanks n (MT_mk (MT_text q9) (MT_kind q9) (MT_place q9) (MT_many q9) (MT_parent q9) (MT_power q9) (MT_first q9) (MT_next q9) (MT_name q9) (MT_from q9) (MT_characters q9) (MT_digits q9) (MT_minus q9) (MT_values q9) (MT_letters q9) ((MT_at q9) + (1:Int32)) (MT_wrong q9) (MT_used q9) (MT_written q9) (MT_left q9))) fun q11 =>
            o_nm (MT_values q11) fun x7_212 =>
            o_bd (rec x3 (x2 + (1:Int32)) q11) fun q12 =>
            if q12.1 = 0 then
              some (5, z.1, x5_101, q12.2)
            else
              o_gd (o_in x7_212 1000) <|
              if 0 ≤ z.1 then
                o_gd (o_in z.1 1000) <|
                m_MT_object_j261 n rec x2 x3 x7_212 (MT_mk (MT_text q12.2) (MT_kind q12.2) (MT_place q12.2) (MT_many q12.2) (MT_parent q12.2) (MT_power q12.2) (MT_first q12.2) (upd (MT_next q12.2) z.1.toNatClampNeg x7_212) (upd (MT_name q12.2) x7_212.toNatClampNeg x6_107) (MT_from q12.2) (MT_characters q12.2) (MT_digits q12.2) (MT_minus q12.2) (MT_values q12.2) (MT_letters q12.2) (MT_at q12.2) (MT_wrong q12.2) (MT_used q12.2) (MT_written q12.2) (MT_left q12.2))
              else
                o_gd (o_in x3 1000) <|
                m_MT_object_j261 n rec x2 x3 x7_212 (MT_mk (MT_text q12.2) (MT_kind q12.2) (MT_place q12.2) (MT_many q12.2) (MT_parent q12.2) (MT_power q12.2) (upd (MT_first q12.2) x3.toNatClampNeg x7_212) (MT_next q12.2) (upd (MT_name q12.2) x7_212.toNatClampNeg x6_107) (MT_from q12.2) (MT_characters q12.2) (MT_digits q12.2) (MT_minus q12.2) (MT_values q12.2) (MT_letters q12.2) (MT_at q12.2) (MT_wrong q12.2) (MT_used q12.2) (MT_written q12.2) (MT_left q12.2))
          else
            some (4, z.1, x5_101, q9)
  else
    some (1, z.1, (0:Int32), q4)
def m_MT_object_j88 (n : Nat) (rec : Int32 → Int32 → SMT → Option (Int32 × SMT)) (a0 : SMT) : Option (Int32 × SMT) :=
  o_bd (m_MT_bad (MT_at a0) a0) fun q17 =>
  o_gd (o_zb q17.1) <|
  some (q17.1, q17.2)
def m_MT_object (n : Nat) (rec : Int32 → Int32 → SMT → Option (Int32 × SMT)) (x1 : Int32) (x2 : Int32) (a0 : SMT) : Option (Int32 × SMT) :=
  o_bd (m_MT_fresh x1 (6:Int32) a0) fun q1 =>
  o_bd (m_MT_blanks n (MT_mk (MT_text q1.2) (MT_kind q1.2) (MT_place q1.2) (MT_many q1.2) (MT_parent q1.2) (MT_power q1.2) (MT_first q1.2) (MT_next q1.2) (MT_name q1.2) (MT_from q1.2) (MT_characters q1.2) (MT_digits q1.2) (MT_minus q1.2) (MT_values q1.2) (MT_letters q1.2) ((MT_at q1.2) + (1:Int32)) (MT_wrong q1.2) (MT_used q1.2) (MT_written q1.2) (MT_left q1.2))) fun q2 =>
  o_bd (m_MT_c (MT_at q2) q2) fun q3 =>
  if q3 = (125:Int32) then
    some ((1:Int32), (MT_mk (MT_text q2) (MT_kind q2) (MT_place q2) (MT_many q2) (MT_parent q2) (MT_power q2) (MT_first q2) (MT_next q2) (MT_name q2) (MT_from q2) (MT_characters q2) (MT_digits q2) (MT_minus q2) (MT_values q2) (MT_letters q2) ((MT_at q2) + (1:Int32)) (MT_wrong q2) (MT_used q2) (MT_written q2) (MT_left q2)))
  else
    o_bd (o_lp n (m_MT_object_b50 n rec x2 q1.1) ((-1:Int32), (0:Int32), q2)) fun q16 =>
    if q16.1 = 1 then
      m_MT_object_j88 n rec q16.2.2.2
    else
    if q16.1 = 2 then
      some ((0:Int32), q16.2.2.2)
    else
    if q16.1 = 3 then
      o_bd (m_MT_bad q16.2.2.1 q16.2.2.2) fun q18 =>
      o_gd (o_zb q18.1) <|
      some (q18.1, q18.2)
    else
    if q16.1 = 4 then
      o_bd (m_MT_bad (MT_at q16.2.2.2) q16.2.2.2) fun q19 =>
      o_gd (o_zb q19.1) <|
      some (q19.1, q19.2)
    else
    if q16.1 = 5 then
      some ((0:Int32), q16.2.2.2)
    else
    if q16.1 = 6 then
      some ((1:Int32), (MT_mk (MT_text q16.2.2.2) (MT_kind q16.2.2.2) (MT_place q16.2.2.2) (MT_many q16.2.2.2) (MT_parent q16.2.2.2) (MT_power q16.2.2.2) (MT_first q16.2.2.2) (MT_next q16.2.2.2) (MT_name q16.2.2.2) (MT_from q16.2.2.2) (MT_characters q16.2.2.2) (MT_digits q16.2.2.2) (MT_minus q16.2.2.2) (MT_values q16.2.2.2) (MT_letters q16.2.2.2) ((MT_at q16.2.2.2) + (1:Int32)) (MT_wrong q16.2.2.2) (MT_used q16.2.2.2) (MT_written q16.2.2.2) (MT_left q16.2.2.2)))
    else
    o_bd (m_MT_bad (MT_at q16.2.2.2) q16.2.2.2) fun q20 =>
    o_gd (o_zb q20.1) <|
    some (q20.1, q20.2)
def m_MT_array_j131 (n : Nat) (rec : Int32 → Int32 → SMT → Option (Int32 × SMT)) (x2 : Int32) (x3 : Int32) (x5 : Int32) (a0 : SMT) : Option (Nat × Int32 × SMT) :=
  o_gd (o_in x3 1000) <|
  o_gd (o_in x3 1000) <|
  o_bd (m_MT_blanks n (MT_mk (MT_text a0) (MT_kind a0) (MT_place a0) (upd (MT_many a0) x3.toNatClampNeg (((MT_many a0) x3.toNatClampNeg) + (1:Int32))) (MT_parent a0) (MT_power a0) (MT_first a0) (MT_next a0) (MT_name a0) (MT_from a0) (MT_characters a0) (MT_digits a0) (MT_minus a0) (MT_values a0) (MT_letters a0) (MT_at a0) (MT_wrong a0) (MT_used a0) (MT_written a0) (MT_left a0))) fun q6 =>
  o_bd (m_MT_c (MT_at q6) q6) fun q7 =>
  if q7 = (93:Int32) then
    some (3, x5, q6)
  else
    o_bd (m_MT_c (MT_at q6) q6) fun q8 =>
    if q8 = (44:Int32) then
      some (0, x5, (MT_mk (MT_text q6) (MT_kind q6) (MT_place q6) (MT_many q6) (MT_parent q6) (MT_power q6) (MT_first q6) (MT_next q6) (MT_name q6) (MT_from q6) (MT_characters q6) (MT_digits q6) (MT_minus q6) (MT_values q6) (MT_letters q6) ((MT_at q6) + (1:Int32)) (MT_wrong q6) (MT_used q6) (MT_written q6) (MT_left q6)))
    else
      some (4, x5, q6)
def m_MT_array_j87 (n : Nat) (rec : Int32 → Int32 → SMT → Option (Int32 × SMT)) (x2 : Int32) (x3 : Int32) (x4 : Int32) (a0 : SMT) : Option (Nat × Int32 × SMT) :=
  o_nm (MT_values a0) fun x5_91 =>
  o_bd (rec x3 (x2 + (1:Int32)) a0) fun q5 =>
  if q5.1 = 0 then
    some (2, x4, q5.2)
  else
    if 0 ≤ x4 then
      o_gd (o_in x4 1000) <|
      m_MT_array_j131 n rec x2 x3 x5_91 (MT_mk (MT_text q5.2) (MT_kind q5.2) (MT_place q5.2) (MT_many q5.2) (MT_parent q5.2) (MT_power q5.2) (MT_first q5.2) (upd (MT_next q5.2) x4.toNatClampNeg x5_91) (MT_name q5.2) (MT_from q5.2) (MT_characters q5.2) (MT_digits q5.2) (MT_minus q5.2) (MT_values q5.2) (MT_letters q5.2) (MT_at q5.2) (MT_wrong q5.2) (MT_used q5.2) (MT_written q5.2) (MT_left q5.2))
    else
      o_gd (o_in x3 1000) <|
      m_MT_array_j131 n rec x2 x3 x5_91 (MT_mk (MT_text q5.2) (MT_kind q5.2) (MT_place q5.2) (MT_many q5.2) (MT_parent q5.2) (MT_power q5.2) (upd (MT_first q5.2) x3.toNatClampNeg x5_91) (MT_next q5.2) (MT_name q5.2) (MT_from q5.2) (MT_characters q5.2) (MT_digits q5.2) (MT_minus q5.2) (MT_values q5.2) (MT_letters q5.2) (MT_at q5.2) (MT_wrong q5.2) (MT_used q5.2) (MT_written q5.2) (MT_left q5.2))
def m_MT_array_b49 (n : Nat) (rec : Int32 → Int32 → SMT → Option (Int32 × SMT)) (x2 : Int32) (x3 : Int32) (z : Int32 × SMT) : Option (Nat × Int32 × SMT) :=
  o_bd (m_MT_blanks n z.2) fun q4 =>
  o_gd (o_in x3 1000) <|
  if ((MT_many q4) x3.toNatClampNeg) = (60:Int32) then
    o_bd (m_MT_c (MT_at q4) q4) fun q9 =>
    o_bd (m_MT_begins q9) fun q10 =>
    if q10 = 0 then
      m_MT_array_j87 n rec x2 x3 z.1 q4
    else
      some (1, z.1, q4)
  else
    m_MT_array_j87 n rec x2 x3 z.1 q4
def m_MT_array (n : Nat) (rec : Int32 → Int32 → SMT → Option (Int32 × SMT)) (x1 : Int32) (x2 : Int32) (a0 : SMT) : Option (Int32 × SMT) :=
  o_bd (m_MT_fresh x1 (5:Int32) a0) fun q1 =>
  o_bd (m_MT_blanks n (MT_mk (MT_text q1.2) (MT_kind q1.2) (MT_place q1.2) (MT_many q1.2) (MT_parent q1.2) (MT_power q1.2) (MT_first q1.2) (MT_next q1.2) (MT_name q1.2) (MT_from q1.2) (MT_characters q1.2) (MT_digits q1.2) (MT_minus q1.2) (MT_values q1.2) (MT_letters q1.2) ((MT_at q1.2) + (1:Int32)) (MT_wrong q1.2) (MT_used q1.2) (MT_written q1.2) (MT_left q1.2))) fun q2 =>
  o_bd (m_MT_c (MT_at q2) q2) fun q3 =>
  if q3 = (93:Int32) then
    some ((1:Int32), (MT_mk (MT_text q2) (MT_kind q2) (MT_place q2) (MT_many q2) (MT_parent q2) (MT_power q2) (MT_first q2) (MT_next q2) (MT_name q2) (MT_from q2) (MT_characters q2) (MT_digits q2) (MT_minus q2) (MT_values q2) (MT_letters q2) ((MT_at q2) + (1:Int32)) (MT_wrong q2) (MT_used q2) (MT_written q2) (MT_left q2)))
  else
    o_bd (o_lp n (m_MT_array_b49 n rec x2 q1.1) ((-1:Int32), q2)) fun q11 =>
    if q11.1 = 1 then
      o_bd (m_MT_bad (MT_at q11.2.2) q11.2.2) fun q12 =>
      o_gd (o_zb q12.1) <|
      some (q12.1, q12.2)
    else
    if q11.1 = 2 then
      some ((0:Int32), q11.2.2)
    else
    if q11.1 = 3 then
      some ((1:Int32), (MT_mk (MT_text q11.2.2) (MT_kind q11.2.2) (MT_place q11.2.2) (MT_many q11.2.2) (MT_parent q11.2.2) (MT_power q11.2.2) (MT_first q11.2.2) (MT_next q11.2.2) (MT_name q11.2.2) (MT_from q11.2.2) (MT_characters q11.2.2) (MT_digits q11.2.2) (MT_minus q11.2.2) (MT_values q11.2.2) (MT_letters q11.2.2) ((MT_at q11.2.2) + (1:Int32)) (MT_wrong q11.2.2) (MT_used q11.2.2) (MT_written q11.2.2) (MT_left q11.2.2)))
    else
    o_bd (m_MT_bad (MT_at q11.2.2) q11.2.2) fun q13 =>
    o_gd (o_zb q13.1) <|
    some (q13.1, q13.2)
def m_MT_value_j83 (n : Nat) (rec : Int32 → Int32 → SMT → Option (Int32 × SMT)) (x1 : Int32) (x2 : Int32) (x3 : Int32) (x4 : Int32) (a0 : SMT) : Option (Int32 × SMT) :=
  if (MT_values a0) = (1000:Int32) then
    o_bd (m_MT_bad (MT_at a0) a0) fun q11 =>
    o_gd (o_zb q11.1) <|
    some (q11.1, q11.2)
  else
    if x3 = (110:Int32) then
      o_bd (m_MT_word n 2 x1 (0:Int32) a0) fun q10 =>
      o_gd (o_zb q10.1) <|
      some (q10.1, q10.2)
    else
      if x3 = (116:Int32) then
        o_bd (m_MT_word n 4 x1 (2:Int32) a0) fun q9 =>
        o_gd (o_zb q9.1) <|
        some (q9.1, q9.2)
      else
        if x3 = (102:Int32) then
          o_bd (m_MT_word n 3 x1 (1:Int32) a0) fun q8 =>
          o_gd (o_zb q8.1) <|
          some (q8.1, q8.2)
        else
          if x3 = (34:Int32) then
            o_bd (m_MT_string n x1 a0) fun q7 =>
            o_gd (o_zb q7.1) <|
            some (q7.1, q7.2)
          else
            if x4 = 0 then
              if x2 = (40:Int32) then
                o_bd (m_MT_bad (MT_at a0) a0) fun q5 =>
                o_gd (o_zb q5.1) <|
                some (q5.1, q5.2)
              else
                if x3 = (91:Int32) then
                  o_bd (m_MT_array n rec x1 x2 a0) fun q4 =>
                  o_gd (o_zb q4.1) <|
                  some (q4.1, q4.2)
                else
                  o_bd (m_MT_object n rec x1 x2 a0) fun q3 =>
                  o_gd (o_zb q3.1) <|
                  some (q3.1, q3.2)
            else
              o_bd (m_MT_number n x1 a0) fun q6 =>
              o_gd (o_zb q6.1) <|
              some (q6.1, q6.2)
def m_MT_value_j31 (n : Nat) (rec : Int32 → Int32 → SMT → Option (Int32 × SMT)) (x1 : Int32) (x2 : Int32) (x3 : Int32) (y0 : Int32) (a0 : SMT) : Option (Int32 × SMT) :=
  if x3 = (110:Int32) then
    m_MT_value_j83 n rec x1 x2 x3 y0 a0
  else
    if x3 = (116:Int32) then
      m_MT_value_j83 n rec x1 x2 x3 y0 a0
    else
      if x3 = (102:Int32) then
        m_MT_value_j83 n rec x1 x2 x3 y0 a0
      else
        if x3 = (34:Int32) then
          m_MT_value_j83 n rec x1 x2 x3 y0 a0
        else
          if x3 = (91:Int32) then
            m_MT_value_j83 n rec x1 x2 x3 y0 a0
          else
            if x3 = (123:Int32) then
              m_MT_value_j83 n rec x1 x2 x3 y0 a0
            else
              if y0 = 0 then
                o_bd (m_MT_bad (MT_at a0) a0) fun q12 =>
                o_gd (o_zb q12.1) <|
                some (q12.1, q12.2)
              else
                m_MT_value_j83 n rec x1 x2 x3 y0 a0
def m_MT_value_F (n : Nat) (rec : Int32 → Int32 → SMT → Option (Int32 × SMT)) (x1 : Int32) (x2 : Int32) (a0 : SMT) : Option (Int32 × SMT) :=
  o_bd (m_MT_c (MT_at a0) a0) fun q1 =>
  o_bd (m_MM_in q1 (48:Int32) (57:Int32)) fun q2 =>
  if q2 = 0 then
    if q1 = (45:Int32) then
      m_MT_value_j31 n rec x1 x2 q1 (1:Int32) a0
    else
      m_MT_value_j31 n rec x1 x2 q1 (0:Int32) a0
  else
    m_MT_value_j31 n rec x1 x2 q1 (1:Int32) a0
def m_MT_value (n : Nat) : Nat → Int32 → Int32 → SMT → Option (Int32 × SMT)
  | 0, _, _, _ => none
  | d + 1, v0, v1, v2 => m_MT_value_F n (m_MT_value n d) v0 v1 v2
def m_MT_read_j67 (n : Nat) (a0 : SMT) : Option (Int32 × SMT) :=
  if (MT_wrong a0) < 0 then
    some ((MT_wrong a0), a0)
  else
    some ((MT_wrong a0), (MT_mk (MT_text a0) (MT_kind a0) (MT_place a0) (MT_many a0) (MT_parent a0) (MT_power a0) (MT_first a0) (MT_next a0) (MT_name a0) (MT_from a0) (MT_characters a0) (MT_digits a0) (MT_minus a0) (0:Int32) (MT_letters a0) (MT_at a0) (MT_wrong a0) (MT_used a0) (MT_written a0) (MT_left a0)))
def m_MT_read (n : Nat) (x1 : Int32) (a0 : SMT) : Option (Int32 × SMT) :=
  o_bd (m_MT_blanks n (MT_mk (MT_text a0) (MT_kind a0) (MT_place a0) (MT_many a0) (MT_parent a0) (MT_power a0) (MT_first a0) (MT_next a0) (MT_name a0) (MT_from a0) (MT_characters a0) (MT_digits a0) (MT_minus a0) (0:Int32) x1 (0:Int32) (-1:Int32) (0:Int32) (0:Int32) (MT_left a0))) fun q1 =>
  o_bd (m_MT_value n 43 (-1:Int32) (0:Int32) q1) fun q2 =>
  if q2.1 = 0 then
    m_MT_read_j67 n q2.2
  else
    o_bd (m_MT_blanks n q2.2) fun q3 =>
    if (MT_letters q3) ≤ (MT_at q3) then
      m_MT_read_j67 n q3
    else
      o_bd (m_MT_bad (MT_at q3) q3) fun q4 =>
      m_MT_read_j67 n q4.2
def m_MM_end_b63 (n : Nat) (x1 : Int32) (x2 : Int32) (Ni : SNI) (Nf : SNF) (z : Int32 × SMT × SMT) : Option (Nat × Int32 × SMT × SMT) :=
  if x2 ≤ z.1 then
    some (1, z.1, z.2.1, z.2.2)
  else
    o_gd (o_in z.1 8200) <|
    o_gd (o_in z.1 8196) <|
    o_nm (z.1 + (1:Int32)) fun x4_83 =>
    some (0, x4_83, z.2.1, (MT_mk (upd (MT_text z.2.2) z.1.toNatClampNeg ((NI_octets Ni) z.1.toNatClampNeg)) (MT_kind z.2.2) (MT_place z.2.2) (MT_many z.2.2) (MT_parent z.2.2) (MT_power z.2.2) (MT_first z.2.2) (MT_next z.2.2) (MT_name z.2.2) (MT_from z.2.2) (MT_characters z.2.2) (MT_digits z.2.2) (MT_minus z.2.2) (MT_values z.2.2) (MT_letters z.2.2) (MT_at z.2.2) (MT_wrong z.2.2) (MT_used z.2.2) (MT_written z.2.2) (MT_left z.2.2)))
def m_MM_end_j125 (n : Nat) (y1 : Int32) (M0 : SMT) (M1 : SMT) (Ni : SNI) (Nf : SNF) : Option (Int32 × SMT × SMT × SNI × SNF) :=
  o_bd (m_MM_fails y1 (2:Int32) Ni) fun q4 =>
  if q4.1 = 0 then
    some ((MT_values M1), M0, M1, q4.2, Nf)
  else
    some ((0:Int32), M0, M1, q4.2, Nf)
def m_MM_end_j103 (n : Nat) (x2 : Int32) (M0 : SMT) (M1 : SMT) (Ni : SNI) (Nf : SNF) : Option (Int32 × SMT × SMT × SNI × SNF) :=
  o_bd (m_MT_read n x2 M1) fun q3 =>
  if q3.1 < 0 then
    m_MM_end_j125 n (0:Int32) M0 q3.2 (NI_mk (NI_err Ni) (NI_fed Ni) q3.1 (NI_octets Ni)) Nf
  else
    m_MM_end_j125 n (1:Int32) M0 q3.2 (NI_mk (NI_err Ni) (NI_fed Ni) q3.1 (NI_octets Ni)) Nf
def m_MM_end_b63v5 (n : Nat) (x1 : Int32) (x2 : Int32) (Ni : SNI) (Nf : SNF) (z : Int32 × SMT × SMT) : Option (Nat × Int32 × SMT × SMT) :=
  if x2 ≤ z.1 then
    some (1, z.1, z.2.1, z.2.2)
  else
    o_gd (o_in z.1 8200) <|
    o_gd (o_in z.1 8196) <|
    o_nm (z.1 + (1:Int32)) fun x4_83 =>
    some (0, x4_83, (MT_mk (upd (MT_text z.2.1) z.1.toNatClampNeg ((NI_octets Ni) z.1.toNatClampNeg)) (MT_kind z.2.1) (MT_place z.2.1) (MT_many z.2.1) (MT_parent z.2.1) (MT_power z.2.1) (MT_first z.2.1) (MT_next z.2.1) (MT_name z.2.1) (MT_from z.2.1) (MT_characters z.2.1) (MT_digits z.2.1) (MT_minus z.2.1) (MT_values z.2.1) (MT_letters z.2.1) (MT_at z.2.1) (MT_wrong z.2.1) (MT_used z.2.1) (MT_written z.2.1) (MT_left z.2.1)), z.2.2)
def m_MM_end_j125v9 (n : Nat) (y1 : Int32) (M0 : SMT) (M1 : SMT) (Ni : SNI) (Nf : SNF) : Option (Int32 × SMT × SMT × SNI × SNF) :=
  o_bd (m_MM_fails y1 (2:Int32) Ni) fun q10 =>
  if q10.1 = 0 then
    some ((MT_values M0), M0, M1, q10.2, Nf)
  else
    some ((0:Int32), M0, M1, q10.2, Nf)
def m_MM_end_j103v7 (n : Nat) (x2 : Int32) (M0 : SMT) (M1 : SMT) (Ni : SNI) (Nf : SNF) : Option (Int32 × SMT × SMT × SNI × SNF) :=
  o_bd (m_MT_read n x2 M0) fun q8 =>
  if q8.1 < 0 then
    m_MM_end_j125v9 n (0:Int32) q8.2 M1 (NI_mk (NI_err Ni) (NI_fed Ni) q8.1 (NI_octets Ni)) Nf
  else
    m_MM_end_j125v9 n (1:Int32) q8.2 M1 (NI_mk (NI_err Ni) (NI_fed Ni) q8.1 (NI_octets Ni)) Nf
def m_MM_end_j30 (n : Nat) (x1 : Int32) (x2 : Int32) (y1 : Int32) (M0 : SMT) (M1 : SMT) (Ni : SNI) (Nf : SNF) : Option (Int32 × SMT × SMT × SNI × SNF) :=
  o_bd (m_MM_fails y1 (1:Int32) Ni) fun q1 =>
  if q1.1 = 0 then
    if x1 = 0 then
      o_bd (o_lp n (m_MM_end_b63 n x1 x2 (NI_mk (NI_err q1.2) (0:Int32) (NI_wrong q1.2) (NI_octets q1.2)) Nf) ((0:Int32), M0, M1)) fun q2 =>
      if x1 = 0 then
        m_MM_end_j103 n x2 q2.2.2.1 q2.2.2.2 (NI_mk (NI_err q1.2) (0:Int32) (NI_wrong q1.2) (NI_octets q1.2)) Nf
      else
        m_MM_end_j103 n x2 q2.2.2.1 q2.2.2.2 (NI_mk (NI_err q1.2) (0:Int32) (NI_wrong q1.2) (NI_octets q1.2)) (NF_mk (0:Int32) (NF_faultKind Nf) (NF_faultValue Nf) (-1:Int32))
    else
      o_bd (o_lp n (m_MM_end_b63v5 n x1 x2 (NI_mk (NI_err q1.2) (0:Int32) (NI_wrong q1.2) (NI_octets q1.2)) Nf) ((0:Int32), M0, M1)) fun q6 =>
      if x1 = 0 then
        m_MM_end_j103v7 n x2 q6.2.2.1 q6.2.2.2 (NI_mk (NI_err q1.2) (0:Int32) (NI_wrong q1.2) (NI_octets q1.2)) Nf
      else
        m_MM_end_j103v7 n x2 q6.2.2.1 q6.2.2.2 (NI_mk (NI_err q1.2) (0:Int32) (NI_wrong q1.2) (NI_octets q1.2)) (NF_mk (0:Int32) (NF_faultKind Nf) (NF_faultValue Nf) (-1:Int32))
  else
    some ((0:Int32), M0, M1, q1.2, Nf)
def m_MM_end (n : Nat) (x1 : Int32) (x2 : Int32) (M0 : SMT) (M1 : SMT) (Ni : SNI) (Nf : SNF) : Option (Int32 × SMT × SMT × SNI × SNF) :=
  if x2 < 0 then
    m_MM_end_j30 n x1 x2 (1:Int32) M0 M1 (NI_mk (0:Int32) (NI_fed Ni) (NI_wrong Ni) (NI_octets Ni)) Nf
  else
    if (8192:Int32) < x2 then
      m_MM_end_j30 n x1 x2 (1:Int32) M0 M1 (NI_mk (0:Int32) (NI_fed Ni) (NI_wrong Ni) (NI_octets Ni)) Nf
    else
      if x2 ≤ (NI_fed Ni) then
        m_MM_end_j30 n x1 x2 (0:Int32) M0 M1 (NI_mk (0:Int32) (NI_fed Ni) (NI_wrong Ni) (NI_octets Ni)) Nf
      else
        m_MM_end_j30 n x1 x2 (1:Int32) M0 M1 (NI_mk (0:Int32) (NI_fed Ni) (NI_wrong Ni) (NI_octets Ni)) Nf
def m_MM_wrong (Ni : SNI) : Option (Int32 × SNI) :=
  some ((NI_wrong Ni), (NI_mk (0:Int32) (NI_fed Ni) (NI_wrong Ni) (NI_octets Ni)))
def m_MM_p (x1 : Int32) (tc : SMT) (Np : SNP) : Option (Int32) :=
  if (NP_patEnd Np) ≤ ((NP_pat Np) + x1) then
    some (-1:Int32)
  else
    o_gd (o_in ((NP_pat Np) + x1) 4000) <|
    some ((MT_characters tc) ((NP_pat Np) + x1).toNatClampNeg)
def m_MM_node (x1 : Int32) (x2 : Int32) (Np : SNP) : Option (Int32 × SNP) :=
  o_gd (o_in (NP_nodes Np) 16000) <|
  o_gd (o_in (NP_nodes Np) 16000) <|
  o_gd (o_in (NP_nodes Np) 16000) <|
  o_gd (o_in (NP_nodes Np) 16000) <|
  o_gd (o_in (NP_nodes Np) 16000) <|
  some ((NP_nodes Np), (NP_mk (upd (NP_nodeKind Np) (NP_nodes Np).toNatClampNeg x1) (upd (NP_nodeA Np) (NP_nodes Np).toNatClampNeg x2) (upd (NP_nodeB Np) (NP_nodes Np).toNatClampNeg (0:Int32)) (upd (NP_nodeC Np) (NP_nodes Np).toNatClampNeg (0:Int32)) (upd (NP_nodeNext Np) (NP_nodes Np).toNatClampNeg (-1:Int32)) (NP_low Np) (NP_high Np) (NP_setFrom Np) (NP_setTo Np) (NP_setNot Np) ((NP_nodes Np) + (1:Int32)) (NP_sets Np) (NP_ranges Np) (NP_pat Np) (NP_patEnd Np) (NP_broken Np)))
def m_MM_no (Np : SNP) : Option (Int32 × SNP) :=
  o_bd (m_MM_node (0:Int32) (0:Int32) (NP_mk (NP_nodeKind Np) (NP_nodeA Np) (NP_nodeB Np) (NP_nodeC Np) (NP_nodeNext Np) (NP_low Np) (NP_high Np) (NP_setFrom Np) (NP_setTo Np) (NP_setNot Np) (NP_nodes Np) (NP_sets Np) (NP_ranges Np) (NP_pat Np) (NP_patEnd Np) (1:Int32))) fun q1 =>
  some (q1.1, q1.2)
def m_MM_begin (Np : SNP) : Option (Int32) :=
  some (NP_ranges Np)
def m_MM_range (x1 : Int32) (x2 : Int32) (Np : SNP) : Option (SNP) :=
  o_gd (o_in (NP_ranges Np) 48000) <|
  o_gd (o_in (NP_ranges Np) 48000) <|
  some (NP_mk (NP_nodeKind Np) (NP_nodeA Np) (NP_nodeB Np) (NP_nodeC Np) (NP_nodeNext Np) (upd (NP_low Np) (NP_ranges Np).toNatClampNeg x1) (upd (NP_high Np) (NP_ranges Np).toNatClampNeg x2) (NP_setFrom Np) (NP_setTo Np) (NP_setNot Np) (NP_nodes Np) (NP_sets Np) ((NP_ranges Np) + (1:Int32)) (NP_pat Np) (NP_patEnd Np) (NP_broken Np))
def m_MM_set_b185 (n : Nat) (x2 : Int32) (x3 : Int32) (z : Int32 × Int32 × SNP) : Option (Nat × Int32 × Int32 × SNP) :=
  if x3 ≤ z.2.1 then
    some (1, z.1, z.2.1, z.2.2)
  else
    o_gd (o_in (x2 + z.2.1) 48000) <|
    o_nm ((NP_low z.2.2) (x2 + z.2.1).toNatClampNeg) fun x6_200 =>
    o_gd (o_in (x2 + z.2.1) 48000) <|
    o_nm ((NP_high z.2.2) (x2 + z.2.1).toNatClampNeg) fun x7_211 =>
    o_gd (o_in (x2 + z.2.1) 48000) <|
    o_gd (o_in (x2 + z.2.1) 48000) <|
    o_nm (x7_211 + (1:Int32)) fun x4_241 =>
    o_nm (z.2.1 + (1:Int32)) fun x5_243 =>
    some (0, x4_241, x5_243, (NP_mk (NP_nodeKind z.2.2) (NP_nodeA z.2.2) (NP_nodeB z.2.2) (NP_nodeC z.2.2) (NP_nodeNext z.2.2) (upd (NP_low z.2.2) (x2 + z.2.1).toNatClampNeg z.1) (upd (NP_high z.2.2) (x2 + z.2.1).toNatClampNeg (x6_200 - (1:Int32))) (NP_setFrom z.2.2) (NP_setTo z.2.2) (NP_setNot z.2.2) (NP_nodes z.2.2) (NP_sets z.2.2) (NP_ranges z.2.2) (NP_pat z.2.2) (NP_patEnd z.2.2) (NP_broken z.2.2)))
def m_MM_set_j165 (n : Nat) (x1 : Int32) (x2 : Int32) (Np : SNP) : Option (SNP) :=
  if x1 < (97:Int32) then
    o_nm ((NP_ranges Np) - x2) fun x3_178 =>
    o_bd (o_lp n (m_MM_set_b185 n x2 x3_178) ((0:Int32), (0:Int32), Np)) fun q11 =>
    o_bd (m_MM_range q11.2.1 (1114111:Int32) q11.2.2.2) fun q12 =>
    some q12
  else
    some Np
def m_MM_set (n : Nat) (x1 : Int32) (Np : SNP) : Option (SNP) :=
  o_nm (NP_ranges Np) fun x2_4 =>
  if (x1 ||| (32:Int32)) = (100:Int32) then
    o_bd (m_MM_range (48:Int32) (57:Int32) Np) fun q17 =>
    m_MM_set_j165 n x1 x2_4 q17
  else
    if (x1 ||| (32:Int32)) = (119:Int32) then
      o_bd (m_MM_range (48:Int32) (57:Int32) Np) fun q13 =>
      o_bd (m_MM_range (65:Int32) (90:Int32) q13) fun q14 =>
      o_bd (m_MM_range (95:Int32) (95:Int32) q14) fun q15 =>
      o_bd (m_MM_range (97:Int32) (122:Int32) q15) fun q16 =>
      m_MM_set_j165 n x1 x2_4 q16
    else
      o_bd (m_MM_range (9:Int32) (13:Int32) Np) fun q1 =>
      o_bd (m_MM_range (32:Int32) (32:Int32) q1) fun q2 =>
      o_bd (m_MM_range (160:Int32) (160:Int32) q2) fun q3 =>
      o_bd (m_MM_range (5760:Int32) (5760:Int32) q3) fun q4 =>
      o_bd (m_MM_range (8192:Int32) (8202:Int32) q4) fun q5 =>
      o_bd (m_MM_range (8232:Int32) (8233:Int32) q5) fun q6 =>
      o_bd (m_MM_range (8239:Int32) (8239:Int32) q6) fun q7 =>
      o_bd (m_MM_range (8287:Int32) (8287:Int32) q7) fun q8 =>
      o_bd (m_MM_range (12288:Int32) (12288:Int32) q8) fun q9 =>
      o_bd (m_MM_range (65279:Int32) (65279:Int32) q9) fun q10 =>
      m_MM_set_j165 n x1 x2_4 q10
def m_MM_hex_j29 (n : Nat) (x1 : Int32) (x2 : Int32) (x3 : Int32) (y0 : Int32) (tc : SMT) (Np : SNP) : Option (Nat × Int32 × Int32 × SNP) :=
  if 0 ≤ y0 then
    o_nm (((16:Int32) * x2) + y0) fun x2_50 =>
    o_nm (x3 + (1:Int32)) fun x3_61 =>
    some (0, x2_50, x3_61, (NP_mk (NP_nodeKind Np) (NP_nodeA Np) (NP_nodeB Np) (NP_nodeC Np) (NP_nodeNext Np) (NP_low Np) (NP_high Np) (NP_setFrom Np) (NP_setTo Np) (NP_setNot Np) (NP_nodes Np) (NP_sets Np) (NP_ranges Np) ((NP_pat Np) + (1:Int32)) (NP_patEnd Np) (NP_broken Np)))
  else
    some (1, x2, x3, Np)
def m_MM_hex_b4 (n : Nat) (x1 : Int32) (tc : SMT) (z : Int32 × Int32 × SNP) : Option (Nat × Int32 × Int32 × SNP) :=
  if x1 ≤ z.2.1 then
    some (2, z.1, z.2.1, z.2.2)
  else
    o_bd (m_MM_p (0:Int32) tc z.2.2) fun q1 =>
    if 0 ≤ q1 then
      o_bd (m_MM_p (0:Int32) tc z.2.2) fun q2 =>
      o_bd (m_MT_hex q2) fun q3 =>
      m_MM_hex_j29 n x1 z.1 z.2.1 q3 tc z.2.2
    else
      m_MM_hex_j29 n x1 z.1 z.2.1 (-1:Int32) tc z.2.2
def m_MM_hex (n : Nat) (x1 : Int32) (tc : SMT) (Np : SNP) : Option (Int32 × SNP) :=
  o_bd (o_lp n (m_MM_hex_b4 n x1 tc) ((0:Int32), (0:Int32), Np)) fun q4 =>
  if q4.1 = 1 then
    some ((0:Int32), (NP_mk (NP_nodeKind q4.2.2.2) (NP_nodeA q4.2.2.2) (NP_nodeB q4.2.2.2) (NP_nodeC q4.2.2.2) (NP_nodeNext q4.2.2.2) (NP_low q4.2.2.2) (NP_high q4.2.2.2) (NP_setFrom q4.2.2.2) (NP_setTo q4.2.2.2) (NP_setNot q4.2.2.2) (NP_nodes q4.2.2.2) (NP_sets q4.2.2.2) (NP_ranges q4.2.2.2) (NP_pat q4.2.2.2) (NP_patEnd q4.2.2.2) (1:Int32)))
  else
  some (q4.2.1, q4.2.2.2)
def m_MM_unicode_b30 (n : Nat) (tc : SMT) (z : Int32 × Int32 × SNP) : Option (Nat × Int32 × Int32 × SNP) :=
  o_bd (m_MM_p (0:Int32) tc z.2.2) fun q2 =>
  if q2 < 0 then
    some (2, z.1, z.2.1, z.2.2)
  else
    o_bd (m_MM_p (0:Int32) tc z.2.2) fun q3 =>
    o_bd (m_MT_hex q3) fun q4 =>
    if q4 < 0 then
      some (2, z.1, z.2.1, z.2.2)
    else
      o_bd (m_MM_p (0:Int32) tc z.2.2) fun q5 =>
      o_bd (m_MT_hex q5) fun q6 =>
      o_nm (((16:Int32) * z.1) + q6) fun x1_62 =>
      if x1_62 ≤ (1114111:Int32) then
        o_nm (z.2.1 + (1:Int32)) fun x2_87 =>
        some (0, x1_62, x2_87, (NP_mk (NP_nodeKind z.2.2) (NP_nodeA z.2.2) (NP_nodeB z.2.2) (NP_nodeC z.2.2) (NP_nodeNext z.2.2) (NP_low z.2.2) (NP_high z.2.2) (NP_setFrom z.2.2) (NP_setTo z.2.2) (NP_setNot z.2.2) (NP_nodes z.2.2) (NP_sets z.2.2) (NP_ranges z.2.2) ((NP_pat z.2.2) + (1:Int32)) (NP_patEnd z.2.2) (NP_broken z.2.2)))
      else
        some (1, x1_62, z.2.1, z.2.2)
def m_MM_unicode_j93 (n : Nat) (x1 : Int32) (x2 : Int32) (tc : SMT) (Np : SNP) : Option (Int32 × SNP) :=
  if x2 = 0 then
    some ((0:Int32), (NP_mk (NP_nodeKind Np) (NP_nodeA Np) (NP_nodeB Np) (NP_nodeC Np) (NP_nodeNext Np) (NP_low Np) (NP_high Np) (NP_setFrom Np) (NP_setTo Np) (NP_setNot Np) (NP_nodes Np) (NP_sets Np) (NP_ranges Np) (NP_pat Np) (NP_patEnd Np) (1:Int32)))
  else
    o_bd (m_MM_p (0:Int32) tc Np) fun q8 =>
    if q8 = (125:Int32) then
      some (x1, (NP_mk (NP_nodeKind Np) (NP_nodeA Np) (NP_nodeB Np) (NP_nodeC Np) (NP_nodeNext Np) (NP_low Np) (NP_high Np) (NP_setFrom Np) (NP_setTo Np) (NP_setNot Np) (NP_nodes Np) (NP_sets Np) (NP_ranges Np) ((NP_pat Np) + (1:Int32)) (NP_patEnd Np) (NP_broken Np)))
    else
      some ((0:Int32), (NP_mk (NP_nodeKind Np) (NP_nodeA Np) (NP_nodeB Np) (NP_nodeC Np) (NP_nodeNext Np) (NP_low Np) (NP_high Np) (NP_setFrom Np) (NP_setTo Np) (NP_setNot Np) (NP_nodes Np) (NP_sets Np) (NP_ranges Np) (NP_pat Np) (NP_patEnd Np) (1:Int32)))
def m_MM_unicode (n : Nat) (tc : SMT) (Np : SNP) : Option (Int32 × SNP) :=
  o_bd (m_MM_p (0:Int32) tc Np) fun q1 =>
  if q1 = (123:Int32) then
    o_bd (o_lp n (m_MM_unicode_b30 n tc) ((0:Int32), (0:Int32), (NP_mk (NP_nodeKind Np) (NP_nodeA Np) (NP_nodeB Np) (NP_nodeC Np) (NP_nodeNext Np) (NP_low Np) (NP_high Np) (NP_setFrom Np) (NP_setTo Np) (NP_setNot Np) (NP_nodes Np) (NP_sets Np) (NP_ranges Np) ((NP_pat Np) + (1:Int32)) (NP_patEnd Np) (NP_broken Np)))) fun q7 =>
    if q7.1 = 1 then
      some ((0:Int32), (NP_mk (NP_nodeKind q7.2.2.2) (NP_nodeA q7.2.2.2) (NP_nodeB q7.2.2.2) (NP_nodeC q7.2.2.2) (NP_nodeNext q7.2.2.2) (NP_low q7.2.2.2) (NP_high q7.2.2.2) (NP_setFrom q7.2.2.2) (NP_setTo q7.2.2.2) (NP_setNot q7.2.2.2) (NP_nodes q7.2.2.2) (NP_sets q7.2.2.2) (NP_ranges q7.2.2.2) (NP_pat q7.2.2.2) (NP_patEnd q7.2.2.2) (1:Int32)))
    else
    m_MM_unicode_j93 n q7.2.1 q7.2.2.1 tc q7.2.2.2
  else
    o_bd (m_MM_hex n (4:Int32) tc Np) fun q9 =>
    some (q9.1, q9.2)
def m_MM_escape (n : Nat) (x1 : Int32) (tc : SMT) (Np : SNP) : Option (Int32 × SNP) :=
  o_bd (m_MM_p (0:Int32) tc Np) fun q1 =>
  if q1 = (36:Int32) then
    some (q1, (NP_mk (NP_nodeKind Np) (NP_nodeA Np) (NP_nodeB Np) (NP_nodeC Np) (NP_nodeNext Np) (NP_low Np) (NP_high Np) (NP_setFrom Np) (NP_setTo Np) (NP_setNot Np) (NP_nodes Np) (NP_sets Np) (NP_ranges Np) ((NP_pat Np) + (1:Int32)) (NP_patEnd Np) (NP_broken Np)))
  else
  if q1 = (37:Int32) then
    some ((0:Int32), (NP_mk (NP_nodeKind Np) (NP_nodeA Np) (NP_nodeB Np) (NP_nodeC Np) (NP_nodeNext Np) (NP_low Np) (NP_high Np) (NP_setFrom Np) (NP_setTo Np) (NP_setNot Np) (NP_nodes Np) (NP_sets Np) (NP_ranges Np) ((NP_pat Np) + (1:Int32)) (NP_patEnd Np) (1:Int32)))
  else
  if q1 = (38:Int32) then
    some ((0:Int32), (NP_mk (NP_nodeKind Np) (NP_nodeA Np) (NP_nodeB Np) (NP_nodeC Np) (NP_nodeNext Np) (NP_low Np) (NP_high Np) (NP_setFrom Np) (NP_setTo Np) (NP_setNot Np) (NP_nodes Np) (NP_sets Np) (NP_ranges Np) ((NP_pat Np) + (1:Int32)) (NP_patEnd Np) (1:Int32)))
  else
  if q1 = (39:Int32) then
    some ((0:Int32), (NP_mk (NP_nodeKind Np) (NP_nodeA Np) (NP_nodeB Np) (NP_nodeC Np) (NP_nodeNext Np) (NP_low Np) (NP_high Np) (NP_setFrom Np) (NP_setTo Np) (NP_setNot Np) (NP_nodes Np) (NP_sets Np) (NP_ranges Np) ((NP_pat Np) + (1:Int32)) (NP_patEnd Np) (1:Int32)))
  else
  if q1 = (40:Int32) then
    some (q1, (NP_mk (NP_nodeKind Np) (NP_nodeA Np) (NP_nodeB Np) (NP_nodeC Np) (NP_nodeNext Np) (NP_low Np) (NP_high Np) (NP_setFrom Np) (NP_setTo Np) (NP_setNot Np) (NP_nodes Np) (NP_sets Np) (NP_ranges Np) ((NP_pat Np) + (1:Int32)) (NP_patEnd Np) (NP_broken Np)))
  else
  if q1 = (41:Int32) then
    some (q1, (NP_mk (NP_nodeKind Np) (NP_nodeA Np) (NP_nodeB Np) (NP_nodeC Np) (NP_nodeNext Np) (NP_low Np) (NP_high Np) (NP_setFrom Np) (NP_setTo Np) (NP_setNot Np) (NP_nodes Np) (NP_sets Np) (NP_ranges Np) ((NP_pat Np) + (1:Int32)) (NP_patEnd Np) (NP_broken Np)))
  else
  if q1 = (42:Int32) then
    some (q1, (NP_mk (NP_nodeKind Np) (NP_nodeA Np) (NP_nodeB Np) (NP_nodeC Np) (NP_nodeNext Np) (NP_low Np) (NP_high Np) (NP_setFrom Np) (NP_setTo Np) (NP_setNot Np) (NP_nodes Np) (NP_sets Np) (NP_ranges Np) ((NP_pat Np) + (1:Int32)) (NP_patEnd Np) (NP_broken Np)))
  else
  if q1 = (43:Int32) then
    some (q1, (NP_mk (NP_nodeKind Np) (NP_nodeA Np) (NP_nodeB Np) (NP_nodeC Np) (NP_nodeNext Np) (NP_low Np) (NP_high Np) (NP_setFrom Np) (NP_setTo Np) (NP_setNot Np) (NP_nodes Np) (NP_sets Np) (NP_ranges Np) ((NP_pat Np) + (1:Int32)) (NP_patEnd Np) (NP_broken Np)))
  else
  if q1 = (44:Int32) then
    some ((0:Int32), (NP_mk (NP_nodeKind Np) (NP_nodeA Np) (NP_nodeB Np) (NP_nodeC Np) (NP_nodeNext Np) (NP_low Np) (NP_high Np) (NP_setFrom Np) (NP_setTo Np) (NP_setNot Np) (NP_nodes Np) (NP_sets Np) (NP_ranges Np) ((NP_pat Np) + (1:Int32)) (NP_patEnd Np) (1:Int32)))
  else
  if q1 = (45:Int32) then
    if x1 = 0 then
      some ((45:Int32), (NP_mk (NP_nodeKind Np) (NP_nodeA Np) (NP_nodeB Np) (NP_nodeC Np) (NP_nodeNext Np) (NP_low Np) (NP_high Np) (NP_setFrom Np) (NP_setTo Np) (NP_setNot Np) (NP_nodes Np) (NP_sets Np) (NP_ranges Np) ((NP_pat Np) + (1:Int32)) (NP_patEnd Np) (1:Int32)))
    else
      some ((45:Int32), (NP_mk (NP_nodeKind Np) (NP_nodeA Np) (NP_nodeB Np) (NP_nodeC Np) (NP_nodeNext Np) (NP_low Np) (NP_high Np) (NP_setFrom Np) (NP_setTo Np) (NP_setNot Np) (NP_nodes Np) (NP_sets Np) (NP_ranges Np) ((NP_pat Np) + (1:Int32)) (NP_patEnd Np) (NP_broken Np)))
  else
  if q1 = (46:Int32) then
    some (q1, (NP_mk (NP_nodeKind Np) (NP_nodeA Np) (NP_nodeB Np) (NP_nodeC Np) (NP_nodeNext Np) (NP_low Np) (NP_high Np) (NP_setFrom Np) (NP_setTo Np) (NP_setNot Np) (NP_nodes Np) (NP_sets Np) (NP_ranges Np) ((NP_pat Np) + (1:Int32)) (NP_patEnd Np) (NP_broken Np)))
  else
  if q1 = (47:Int32) then
    some (q1, (NP_mk (NP_nodeKind Np) (NP_nodeA Np) (NP_nodeB Np) (NP_nodeC Np) (NP_nodeNext Np) (NP_low Np) (NP_high Np) (NP_setFrom Np) (NP_setTo Np) (NP_setNot Np) (NP_nodes Np) (NP_sets Np) (NP_ranges Np) ((NP_pat Np) + (1:Int32)) (NP_patEnd Np) (NP_broken Np)))
  else
  if q1 = (48:Int32) then
    o_bd (m_MM_p (0:Int32) tc (NP_mk (NP_nodeKind Np) (NP_nodeA Np) (NP_nodeB Np) (NP_nodeC Np) (NP_nodeNext Np) (NP_low Np) (NP_high Np) (NP_setFrom Np) (NP_setTo Np) (NP_setNot Np) (NP_nodes Np) (NP_sets Np) (NP_ranges Np) ((NP_pat Np) + (1:Int32)) (NP_patEnd Np) (NP_broken Np))) fun q2 =>
    o_bd (m_MM_in q2 (48:Int32) (57:Int32)) fun q3 =>
    if q3 = 0 then
      some ((0:Int32), (NP_mk (NP_nodeKind Np) (NP_nodeA Np) (NP_nodeB Np) (NP_nodeC Np) (NP_nodeNext Np) (NP_low Np) (NP_high Np) (NP_setFrom Np) (NP_setTo Np) (NP_setNot Np) (NP_nodes Np) (NP_sets Np) (NP_ranges Np) ((NP_pat Np) + (1:Int32)) (NP_patEnd Np) (NP_broken Np)))
    else
      some ((0:Int32), (NP_mk (NP_nodeKind Np) (NP_nodeA Np) (NP_nodeB Np) (NP_nodeC Np) (NP_nodeNext Np) (NP_low Np) (NP_high Np) (NP_setFrom Np) (NP_setTo Np) (NP_setNot Np) (NP_nodes Np) (NP_sets Np) (NP_ranges Np) ((NP_pat Np) + (1:Int32)) (NP_patEnd Np) (1:Int32)))
  else
  if q1 = (49:Int32) then
    some ((0:Int32), (NP_mk (NP_nodeKind Np) (NP_nodeA Np) (NP_nodeB Np) (NP_nodeC Np) (NP_nodeNext Np) (NP_low Np) (NP_high Np) (NP_setFrom Np) (NP_setTo Np) (NP_setNot Np) (NP_nodes Np) (NP_sets Np) (NP_ranges Np) ((NP_pat Np) + (1:Int32)) (NP_patEnd Np) (1:Int32)))
  else
  if q1 = (50:Int32) then
    some ((0:Int32), (NP_mk (NP_nodeKind Np) (NP_nodeA Np) (NP_nodeB Np) (NP_nodeC Np) (NP_nodeNext Np) (NP_low Np) (NP_high Np) (NP_setFrom Np) (NP_setTo Np) (NP_setNot Np) (NP_nodes Np) (NP_sets Np) (NP_ranges Np) ((NP_pat Np) + (1:Int32)) (NP_patEnd Np) (1:Int32)))
  else
  if q1 = (51:Int32) then
    some ((0:Int32), (NP_mk (NP_nodeKind Np) (NP_nodeA Np) (NP_nodeB Np) (NP_nodeC Np) (NP_nodeNext Np) (NP_low Np) (NP_high Np) (NP_setFrom Np) (NP_setTo Np) (NP_setNot Np) (NP_nodes Np) (NP_sets Np) (NP_ranges Np) ((NP_pat Np) + (1:Int32)) (NP_patEnd Np) (1:Int32)))
  else
  if q1 = (52:Int32) then
    some ((0:Int32), (NP_mk (NP_nodeKind Np) (NP_nodeA Np) (NP_nodeB Np) (NP_nodeC Np) (NP_nodeNext Np) (NP_low Np) (NP_high Np) (NP_setFrom Np) (NP_setTo Np) (NP_setNot Np) (NP_nodes Np) (NP_sets Np) (NP_ranges Np) ((NP_pat Np) + (1:Int32)) (NP_patEnd Np) (1:Int32)))
  else
  if q1 = (53:Int32) then
    some ((0:Int32), (NP_mk (NP_nodeKind Np) (NP_nodeA Np) (NP_nodeB Np) (NP_nodeC Np) (NP_nodeNext Np) (NP_low Np) (NP_high Np) (NP_setFrom Np) (NP_setTo Np) (NP_setNot Np) (NP_nodes Np) (NP_sets Np) (NP_ranges Np) ((NP_pat Np) + (1:Int32)) (NP_patEnd Np) (1:Int32)))
  else
  if q1 = (54:Int32) then
    some ((0:Int32), (NP_mk (NP_nodeKind Np) (NP_nodeA Np) (NP_nodeB Np) (NP_nodeC Np) (NP_nodeNext Np) (NP_low Np) (NP_high Np) (NP_setFrom Np) (NP_setTo Np) (NP_setNot Np) (NP_nodes Np) (NP_sets Np) (NP_ranges Np) ((NP_pat Np) + (1:Int32)) (NP_patEnd Np) (1:Int32)))
  else
  if q1 = (55:Int32) then
    some ((0:Int32), (NP_mk (NP_nodeKind Np) (NP_nodeA Np) (NP_nodeB Np) (NP_nodeC Np) (NP_nodeNext Np) (NP_low Np) (NP_high Np) (NP_setFrom Np) (NP_setTo Np) (NP_setNot Np) (NP_nodes Np) (NP_sets Np) (NP_ranges Np) ((NP_pat Np) + (1:Int32)) (NP_patEnd Np) (1:Int32)))
  else
  if q1 = (56:Int32) then
    some ((0:Int32), (NP_mk (NP_nodeKind Np) (NP_nodeA Np) (NP_nodeB Np) (NP_nodeC Np) (NP_nodeNext Np) (NP_low Np) (NP_high Np) (NP_setFrom Np) (NP_setTo Np) (NP_setNot Np) (NP_nodes Np) (NP_sets Np) (NP_ranges Np) ((NP_pat Np) + (1:Int32)) (NP_patEnd Np) (1:Int32)))
  else
  if q1 = (57:Int32) then
    some ((0:Int32), (NP_mk (NP_nodeKind Np) (NP_nodeA Np) (NP_nodeB Np) (NP_nodeC Np) (NP_nodeNext Np) (NP_low Np) (NP_high Np) (NP_setFrom Np) (NP_setTo Np) (NP_setNot Np) (NP_nodes Np) (NP_sets Np) (NP_ranges Np) ((NP_pat Np) + (1:Int32)) (NP_patEnd Np) (1:Int32)))
  else
  if q1 = (58:Int32) then
    some ((0:Int32), (NP_mk (NP_nodeKind Np) (NP_nodeA Np) (NP_nodeB Np) (NP_nodeC Np) (NP_nodeNext Np) (NP_low Np) (NP_high Np) (NP_setFrom Np) (NP_setTo Np) (NP_setNot Np) (NP_nodes Np) (NP_sets Np) (NP_ranges Np) ((NP_pat Np) + (1:Int32)) (NP_patEnd Np) (1:Int32)))
  else
  if q1 = (59:Int32) then
    some ((0:Int32), (NP_mk (NP_nodeKind Np) (NP_nodeA Np) (NP_nodeB Np) (NP_nodeC Np) (NP_nodeNext Np) (NP_low Np) (NP_high Np) (NP_setFrom Np) (NP_setTo Np) (NP_setNot Np) (NP_nodes Np) (NP_sets Np) (NP_ranges Np) ((NP_pat Np) + (1:Int32)) (NP_patEnd Np) (1:Int32)))
  else
  if q1 = (60:Int32) then
    some ((0:Int32), (NP_mk (NP_nodeKind Np) (NP_nodeA Np) (NP_nodeB Np) (NP_nodeC Np) (NP_nodeNext Np) (NP_low Np) (NP_high Np) (NP_setFrom Np) (NP_setTo Np) (NP_setNot Np) (NP_nodes Np) (NP_sets Np) (NP_ranges Np) ((NP_pat Np) + (1:Int32)) (NP_patEnd Np) (1:Int32)))
  else
  if q1 = (61:Int32) then
    some ((0:Int32), (NP_mk (NP_nodeKind Np) (NP_nodeA Np) (NP_nodeB Np) (NP_nodeC Np) (NP_nodeNext Np) (NP_low Np) (NP_high Np) (NP_setFrom Np) (NP_setTo Np) (NP_setNot Np) (NP_nodes Np) (NP_sets Np) (NP_ranges Np) ((NP_pat Np) + (1:Int32)) (NP_patEnd Np) (1:Int32)))
  else
  if q1 = (62:Int32) then
    some ((0:Int32), (NP_mk (NP_nodeKind Np) (NP_nodeA Np) (NP_nodeB Np) (NP_nodeC Np) (NP_nodeNext Np) (NP_low Np) (NP_high Np) (NP_setFrom Np) (NP_setTo Np) (NP_setNot Np) (NP_nodes Np) (NP_sets Np) (NP_ranges Np) ((NP_pat Np) + (1:Int32)) (NP_patEnd Np) (1:Int32)))
  else
  if q1 = (63:Int32) then
    some (q1, (NP_mk (NP_nodeKind Np) (NP_nodeA Np) (NP_nodeB Np) (NP_nodeC Np) (NP_nodeNext Np) (NP_low Np) (NP_high Np) (NP_setFrom Np) (NP_setTo Np) (NP_setNot Np) (NP_nodes Np) (NP_sets Np) (NP_ranges Np) ((NP_pat Np) + (1:Int32)) (NP_patEnd Np) (NP_broken Np)))
  else
  if q1 = (64:Int32) then
    some ((0:Int32), (NP_mk (NP_nodeKind Np) (NP_nodeA Np) (NP_nodeB Np) (NP_nodeC Np) (NP_nodeNext Np) (NP_low Np) (NP_high Np) (NP_setFrom Np) (NP_setTo Np) (NP_setNot Np) (NP_nodes Np) (NP_sets Np) (NP_ranges Np) ((NP_pat Np) + (1:Int32)) (NP_patEnd Np) (1:Int32)))
  else
  if q1 = (65:Int32) then
    some ((0:Int32), (NP_mk (NP_nodeKind Np) (NP_nodeA Np) (NP_nodeB Np) (NP_nodeC Np) (NP_nodeNext Np) (NP_low Np) (NP_high Np) (NP_setFrom Np) (NP_setTo Np) (NP_setNot Np) (NP_nodes Np) (NP_sets Np) (NP_ranges Np) ((NP_pat Np) + (1:Int32)) (NP_patEnd Np) (1:Int32)))
  else
  if q1 = (66:Int32) then
    some ((0:Int32), (NP_mk (NP_nodeKind Np) (NP_nodeA Np) (NP_nodeB Np) (NP_nodeC Np) (NP_nodeNext Np) (NP_low Np) (NP_high Np) (NP_setFrom Np) (NP_setTo Np) (NP_setNot Np) (NP_nodes Np) (NP_sets Np) (NP_ranges Np) ((NP_pat Np) + (1:Int32)) (NP_patEnd Np) (1:Int32)))
  else
  if q1 = (67:Int32) then
    some ((0:Int32), (NP_mk (NP_nodeKind Np) (NP_nodeA Np) (NP_nodeB Np) (NP_nodeC Np) (NP_nodeNext Np) (NP_low Np) (NP_high Np) (NP_setFrom Np) (NP_setTo Np) (NP_setNot Np) (NP_nodes Np) (NP_sets Np) (NP_ranges Np) ((NP_pat Np) + (1:Int32)) (NP_patEnd Np) (1:Int32)))
  else
  if q1 = (68:Int32) then
    o_bd (m_MM_set n q1 (NP_mk (NP_nodeKind Np) (NP_nodeA Np) (NP_nodeB Np) (NP_nodeC Np) (NP_nodeNext Np) (NP_low Np) (NP_high Np) (NP_setFrom Np) (NP_setTo Np) (NP_setNot Np) (NP_nodes Np) (NP_sets Np) (NP_ranges Np) ((NP_pat Np) + (1:Int32)) (NP_patEnd Np) (NP_broken Np))) fun q4 =>
    some ((-1:Int32), q4)
  else
  if q1 = (69:Int32) then
    some ((0:Int32), (NP_mk (NP_nodeKind Np) (NP_nodeA Np) (NP_nodeB Np) (NP_nodeC Np) (NP_nodeNext Np) (NP_low Np) (NP_high Np) (NP_setFrom Np) (NP_setTo Np) (NP_setNot Np) (NP_nodes Np) (NP_sets Np) (NP_ranges Np) ((NP_pat Np) + (1:Int32)) (NP_patEnd Np) (1:Int32)))
  else
  if q1 = (70:Int32) then
    some ((0:Int32), (NP_mk (NP_nodeKind Np) (NP_nodeA Np) (NP_nodeB Np) (NP_nodeC Np) (NP_nodeNext Np) (NP_low Np) (NP_high Np) (NP_setFrom Np) (NP_setTo Np) (NP_setNot Np) (NP_nodes Np) (NP_sets Np) (NP_ranges Np) ((NP_pat Np) + (1:Int32)) (NP_patEnd Np) (1:Int32)))
  else
  if q1 = (71:Int32) then
    some ((0:Int32), (NP_mk (NP_nodeKind Np) (NP_nodeA Np) (NP_nodeB Np) (NP_nodeC Np) (NP_nodeNext Np) (NP_low Np) (NP_high Np) (NP_setFrom Np) (NP_setTo Np) (NP_setNot Np) (NP_nodes Np) (NP_sets Np) (NP_ranges Np) ((NP_pat Np) + (1:Int32)) (NP_patEnd Np) (1:Int32)))
  else
  if q1 = (72:Int32) then
    some ((0:Int32), (NP_mk (NP_nodeKind Np) (NP_nodeA Np) (NP_nodeB Np) (NP_nodeC Np) (NP_nodeNext Np) (NP_low Np) (NP_high Np) (NP_setFrom Np) (NP_setTo Np) (NP_setNot Np) (NP_nodes Np) (NP_sets Np) (NP_ranges Np) ((NP_pat Np) + (1:Int32)) (NP_patEnd Np) (1:Int32)))
  else
  if q1 = (73:Int32) then
    some ((0:Int32), (NP_mk (NP_nodeKind Np) (NP_nodeA Np) (NP_nodeB Np) (NP_nodeC Np) (NP_nodeNext Np) (NP_low Np) (NP_high Np) (NP_setFrom Np) (NP_setTo Np) (NP_setNot Np) (NP_nodes Np) (NP_sets Np) (NP_ranges Np) ((NP_pat Np) + (1:Int32)) (NP_patEnd Np) (1:Int32)))
  else
  if q1 = (74:Int32) then
    some ((0:Int32), (NP_mk (NP_nodeKind Np) (NP_nodeA Np) (NP_nodeB Np) (NP_nodeC Np) (NP_nodeNext Np) (NP_low Np) (NP_high Np) (NP_setFrom Np) (NP_setTo Np) (NP_setNot Np) (NP_nodes Np) (NP_sets Np) (NP_ranges Np) ((NP_pat Np) + (1:Int32)) (NP_patEnd Np) (1:Int32)))
  else
  if q1 = (75:Int32) then
    some ((0:Int32), (NP_mk (NP_nodeKind Np) (NP_nodeA Np) (NP_nodeB Np) (NP_nodeC Np) (NP_nodeNext Np) (NP_low Np) (NP_high Np) (NP_setFrom Np) (NP_setTo Np) (NP_setNot Np) (NP_nodes Np) (NP_sets Np) (NP_ranges Np) ((NP_pat Np) + (1:Int32)) (NP_patEnd Np) (1:Int32)))
  else
  if q1 = (76:Int32) then
    some ((0:Int32), (NP_mk (NP_nodeKind Np) (NP_nodeA Np) (NP_nodeB Np) (NP_nodeC Np) (NP_nodeNext Np) (NP_low Np) (NP_high Np) (NP_setFrom Np) (NP_setTo Np) (NP_setNot Np) (NP_nodes Np) (NP_sets Np) (NP_ranges Np) ((NP_pat Np) + (1:Int32)) (NP_patEnd Np) (1:Int32)))
  else
  if q1 = (77:Int32) then
    some ((0:Int32), (NP_mk (NP_nodeKind Np) (NP_nodeA Np) (NP_nodeB Np) (NP_nodeC Np) (NP_nodeNext Np) (NP_low Np) (NP_high Np) (NP_setFrom Np) (NP_setTo Np) (NP_setNot Np) (NP_nodes Np) (NP_sets Np) (NP_ranges Np) ((NP_pat Np) + (1:Int32)) (NP_patEnd Np) (1:Int32)))
  else
  if q1 = (78:Int32) then
    some ((0:Int32), (NP_mk (NP_nodeKind Np) (NP_nodeA Np) (NP_nodeB Np) (NP_nodeC Np) (NP_nodeNext Np) (NP_low Np) (NP_high Np) (NP_setFrom Np) (NP_setTo Np) (NP_setNot Np) (NP_nodes Np) (NP_sets Np) (NP_ranges Np) ((NP_pat Np) + (1:Int32)) (NP_patEnd Np) (1:Int32)))
  else
  if q1 = (79:Int32) then
    some ((0:Int32), (NP_mk (NP_nodeKind Np) (NP_nodeA Np) (NP_nodeB Np) (NP_nodeC Np) (NP_nodeNext Np) (NP_low Np) (NP_high Np) (NP_setFrom Np) (NP_setTo Np) (NP_setNot Np) (NP_nodes Np) (NP_sets Np) (NP_ranges Np) ((NP_pat Np) + (1:Int32)) (NP_patEnd Np) (1:Int32)))
  else
  if q1 = (80:Int32) then
    some ((0:Int32), (NP_mk (NP_nodeKind Np) (NP_nodeA Np) (NP_nodeB Np) (NP_nodeC Np) (NP_nodeNext Np) (NP_low Np) (NP_high Np) (NP_setFrom Np) (NP_setTo Np) (NP_setNot Np) (NP_nodes Np) (NP_sets Np) (NP_ranges Np) ((NP_pat Np) + (1:Int32)) (NP_patEnd Np) (1:Int32)))
  else
  if q1 = (81:Int32) then
    some ((0:Int32), (NP_mk (NP_nodeKind Np) (NP_nodeA Np) (NP_nodeB Np) (NP_nodeC Np) (NP_nodeNext Np) (NP_low Np) (NP_high Np) (NP_setFrom Np) (NP_setTo Np) (NP_setNot Np) (NP_nodes Np) (NP_sets Np) (NP_ranges Np) ((NP_pat Np) + (1:Int32)) (NP_patEnd Np) (1:Int32)))
  else
  if q1 = (82:Int32) then
    some ((0:Int32), (NP_mk (NP_nodeKind Np) (NP_nodeA Np) (NP_nodeB Np) (NP_nodeC Np) (NP_nodeNext Np) (NP_low Np) (NP_high Np) (NP_setFrom Np) (NP_setTo Np) (NP_setNot Np) (NP_nodes Np) (NP_sets Np) (NP_ranges Np) ((NP_pat Np) + (1:Int32)) (NP_patEnd Np) (1:Int32)))
  else
  if q1 = (83:Int32) then
    o_bd (m_MM_set n q1 (NP_mk (NP_nodeKind Np) (NP_nodeA Np) (NP_nodeB Np) (NP_nodeC Np) (NP_nodeNext Np) (NP_low Np) (NP_high Np) (NP_setFrom Np) (NP_setTo Np) (NP_setNot Np) (NP_nodes Np) (NP_sets Np) (NP_ranges Np) ((NP_pat Np) + (1:Int32)) (NP_patEnd Np) (NP_broken Np))) fun q5 =>
    some ((-1:Int32), q5)
  else
  if q1 = (84:Int32) then
    some ((0:Int32), (NP_mk (NP_nodeKind Np) (NP_nodeA Np) (NP_nodeB Np) (NP_nodeC Np) (NP_nodeNext Np) (NP_low Np) (NP_high Np) (NP_setFrom Np) (NP_setTo Np) (NP_setNot Np) (NP_nodes Np) (NP_sets Np) (NP_ranges Np) ((NP_pat Np) + (1:Int32)) (NP_patEnd Np) (1:Int32)))
  else
  if q1 = (85:Int32) then
    some ((0:Int32), (NP_mk (NP_nodeKind Np) (NP_nodeA Np) (NP_nodeB Np) (NP_nodeC Np) (NP_nodeNext Np) (NP_low Np) (NP_high Np) (NP_setFrom Np) (NP_setTo Np) (NP_setNot Np) (NP_nodes Np) (NP_sets Np) (NP_ranges Np) ((NP_pat Np) + (1:Int32)) (NP_patEnd Np) (1:Int32)))
  else
  if q1 = (86:Int32) then
    some ((0:Int32), (NP_mk (NP_nodeKind Np) (NP_nodeA Np) (NP_nodeB Np) (NP_nodeC Np) (NP_nodeNext Np) (NP_low Np) (NP_high Np) (NP_setFrom Np) (NP_setTo Np) (NP_setNot Np) (NP_nodes Np) (NP_sets Np) (NP_ranges Np) ((NP_pat Np) + (1:Int32)) (NP_patEnd Np) (1:Int32)))
  else
  if q1 = (87:Int32) then
    o_bd (m_MM_set n q1 (NP_mk (NP_nodeKind Np) (NP_nodeA Np) (NP_nodeB Np) (NP_nodeC Np) (NP_nodeNext Np) (NP_low Np) (NP_high Np) (NP_setFrom Np) (NP_setTo Np) (NP_setNot Np) (NP_nodes Np) (NP_sets Np) (NP_ranges Np) ((NP_pat Np) + (1:Int32)) (NP_patEnd Np) (NP_broken Np))) fun q6 =>
    some ((-1:Int32), q6)
  else
  if q1 = (88:Int32) then
    some ((0:Int32), (NP_mk (NP_nodeKind Np) (NP_nodeA Np) (NP_nodeB Np) (NP_nodeC Np) (NP_nodeNext Np) (NP_low Np) (NP_high Np) (NP_setFrom Np) (NP_setTo Np) (NP_setNot Np) (NP_nodes Np) (NP_sets Np) (NP_ranges Np) ((NP_pat Np) + (1:Int32)) (NP_patEnd Np) (1:Int32)))
  else
  if q1 = (89:Int32) then
    some ((0:Int32), (NP_mk (NP_nodeKind Np) (NP_nodeA Np) (NP_nodeB Np) (NP_nodeC Np) (NP_nodeNext Np) (NP_low Np) (NP_high Np) (NP_setFrom Np) (NP_setTo Np) (NP_setNot Np) (NP_nodes Np) (NP_sets Np) (NP_ranges Np) ((NP_pat Np) + (1:Int32)) (NP_patEnd Np) (1:Int32)))
  else
  if q1 = (90:Int32) then
    some ((0:Int32), (NP_mk (NP_nodeKind Np) (NP_nodeA Np) (NP_nodeB Np) (NP_nodeC Np) (NP_nodeNext Np) (NP_low Np) (NP_high Np) (NP_setFrom Np) (NP_setTo Np) (NP_setNot Np) (NP_nodes Np) (NP_sets Np) (NP_ranges Np) ((NP_pat Np) + (1:Int32)) (NP_patEnd Np) (1:Int32)))
  else
  if q1 = (91:Int32) then
    some (q1, (NP_mk (NP_nodeKind Np) (NP_nodeA Np) (NP_nodeB Np) (NP_nodeC Np) (NP_nodeNext Np) (NP_low Np) (NP_high Np) (NP_setFrom Np) (NP_setTo Np) (NP_setNot Np) (NP_nodes Np) (NP_sets Np) (NP_ranges Np) ((NP_pat Np) + (1:Int32)) (NP_patEnd Np) (NP_broken Np)))
  else
  if q1 = (92:Int32) then
    some (q1, (NP_mk (NP_nodeKind Np) (NP_nodeA Np) (NP_nodeB Np) (NP_nodeC Np) (NP_nodeNext Np) (NP_low Np) (NP_high Np) (NP_setFrom Np) (NP_setTo Np) (NP_setNot Np) (NP_nodes Np) (NP_sets Np) (NP_ranges Np) ((NP_pat Np) + (1:Int32)) (NP_patEnd Np) (NP_broken Np)))
  else
  if q1 = (93:Int32) then
    some (q1, (NP_mk (NP_nodeKind Np) (NP_nodeA Np) (NP_nodeB Np) (NP_nodeC Np) (NP_nodeNext Np) (NP_low Np) (NP_high Np) (NP_setFrom Np) (NP_setTo Np) (NP_setNot Np) (NP_nodes Np) (NP_sets Np) (NP_ranges Np) ((NP_pat Np) + (1:Int32)) (NP_patEnd Np) (NP_broken Np)))
  else
  if q1 = (94:Int32) then
    some (q1, (NP_mk (NP_nodeKind Np) (NP_nodeA Np) (NP_nodeB Np) (NP_nodeC Np) (NP_nodeNext Np) (NP_low Np) (NP_high Np) (NP_setFrom Np) (NP_setTo Np) (NP_setNot Np) (NP_nodes Np) (NP_sets Np) (NP_ranges Np) ((NP_pat Np) + (1:Int32)) (NP_patEnd Np) (NP_broken Np)))
  else
  if q1 = (95:Int32) then
    some ((0:Int32), (NP_mk (NP_nodeKind Np) (NP_nodeA Np) (NP_nodeB Np) (NP_nodeC Np) (NP_nodeNext Np) (NP_low Np) (NP_high Np) (NP_setFrom Np) (NP_setTo Np) (NP_setNot Np) (NP_nodes Np) (NP_sets Np) (NP_ranges Np) ((NP_pat Np) + (1:Int32)) (NP_patEnd Np) (1:Int32)))
  else
  if q1 = (96:Int32) then
    some ((0:Int32), (NP_mk (NP_nodeKind Np) (NP_nodeA Np) (NP_nodeB Np) (NP_nodeC Np) (NP_nodeNext Np) (NP_low Np) (NP_high Np) (NP_setFrom Np) (NP_setTo Np) (NP_setNot Np) (NP_nodes Np) (NP_sets Np) (NP_ranges Np) ((NP_pat Np) + (1:Int32)) (NP_patEnd Np) (1:Int32)))
  else
  if q1 = (97:Int32) then
    some ((0:Int32), (NP_mk (NP_nodeKind Np) (NP_nodeA Np) (NP_nodeB Np) (NP_nodeC Np) (NP_nodeNext Np) (NP_low Np) (NP_high Np) (NP_setFrom Np) (NP_setTo Np) (NP_setNot Np) (NP_nodes Np) (NP_sets Np) (NP_ranges Np) ((NP_pat Np) + (1:Int32)) (NP_patEnd Np) (1:Int32)))
  else
  if q1 = (98:Int32) then
    if x1 = 0 then
      some ((0:Int32), (NP_mk (NP_nodeKind Np) (NP_nodeA Np) (NP_nodeB Np) (NP_nodeC Np) (NP_nodeNext Np) (NP_low Np) (NP_high Np) (NP_setFrom Np) (NP_setTo Np) (NP_setNot Np) (NP_nodes Np) (NP_sets Np) (NP_ranges Np) ((NP_pat Np) + (1:Int32)) (NP_patEnd Np) (1:Int32)))
    else
      some ((8:Int32), (NP_mk (NP_nodeKind Np) (NP_nodeA Np) (NP_nodeB Np) (NP_nodeC Np) (NP_nodeNext Np) (NP_low Np) (NP_high Np) (NP_setFrom Np) (NP_setTo Np) (NP_setNot Np) (NP_nodes Np) (NP_sets Np) (NP_ranges Np) ((NP_pat Np) + (1:Int32)) (NP_patEnd Np) (NP_broken Np)))
  else
  if q1 = (99:Int32) then
    some ((0:Int32), (NP_mk (NP_nodeKind Np) (NP_nodeA Np) (NP_nodeB Np) (NP_nodeC Np) (NP_nodeNext Np) (NP_low Np) (NP_high Np) (NP_setFrom Np) (NP_setTo Np) (NP_setNot Np) (NP_nodes Np) (NP_sets Np) (NP_ranges Np) ((NP_pat Np) + (1:Int32)) (NP_patEnd Np) (1:Int32)))
  else
  if q1 = (100:Int32) then
    o_bd (m_MM_set n q1 (NP_mk (NP_nodeKind Np) (NP_nodeA Np) (NP_nodeB Np) (NP_nodeC Np) (NP_nodeNext Np) (NP_low Np) (NP_high Np) (NP_setFrom Np) (NP_setTo Np) (NP_setNot Np) (NP_nodes Np) (NP_sets Np) (NP_ranges Np) ((NP_pat Np) + (1:Int32)) (NP_patEnd Np) (NP_broken Np))) fun q7 =>
    some ((-1:Int32), q7)
  else
  if q1 = (101:Int32) then
    some ((0:Int32), (NP_mk (NP_nodeKind Np) (NP_nodeA Np) (NP_nodeB Np) (NP_nodeC Np) (NP_nodeNext Np) (NP_low Np) (NP_high Np) (NP_setFrom Np) (NP_setTo Np) (NP_setNot Np) (NP_nodes Np) (NP_sets Np) (NP_ranges Np) ((NP_pat Np) + (1:Int32)) (NP_patEnd Np) (1:Int32)))
  else
  if q1 = (102:Int32) then
    some ((12:Int32), (NP_mk (NP_nodeKind Np) (NP_nodeA Np) (NP_nodeB Np) (NP_nodeC Np) (NP_nodeNext Np) (NP_low Np) (NP_high Np) (NP_setFrom Np) (NP_setTo Np) (NP_setNot Np) (NP_nodes Np) (NP_sets Np) (NP_ranges Np) ((NP_pat Np) + (1:Int32)) (NP_patEnd Np) (NP_broken Np)))
  else
  if q1 = (103:Int32) then
    some ((0:Int32), (NP_mk (NP_nodeKind Np) (NP_nodeA Np) (NP_nodeB Np) (NP_nodeC Np) (NP_nodeNext Np) (NP_low Np) (NP_high Np) (NP_setFrom Np) (NP_setTo Np) (NP_setNot Np) (NP_nodes Np) (NP_sets Np) (NP_ranges Np) ((NP_pat Np) + (1:Int32)) (NP_patEnd Np) (1:Int32)))
  else
  if q1 = (104:Int32) then
    some ((0:Int32), (NP_mk (NP_nodeKind Np) (NP_nodeA Np) (NP_nodeB Np) (NP_nodeC Np) (NP_nodeNext Np) (NP_low Np) (NP_high Np) (NP_setFrom Np) (NP_setTo Np) (NP_setNot Np) (NP_nodes Np) (NP_sets Np) (NP_ranges Np) ((NP_pat Np) + (1:Int32)) (NP_patEnd Np) (1:Int32)))
  else
  if q1 = (105:Int32) then
    some ((0:Int32), (NP_mk (NP_nodeKind Np) (NP_nodeA Np) (NP_nodeB Np) (NP_nodeC Np) (NP_nodeNext Np) (NP_low Np) (NP_high Np) (NP_setFrom Np) (NP_setTo Np) (NP_setNot Np) (NP_nodes Np) (NP_sets Np) (NP_ranges Np) ((NP_pat Np) + (1:Int32)) (NP_patEnd Np) (1:Int32)))
  else
  if q1 = (106:Int32) then
    some ((0:Int32), (NP_mk (NP_nodeKind Np) (NP_nodeA Np) (NP_nodeB Np) (NP_nodeC Np) (NP_nodeNext Np) (NP_low Np) (NP_high Np) (NP_setFrom Np) (NP_setTo Np) (NP_setNot Np) (NP_nodes Np) (NP_sets Np) (NP_ranges Np) ((NP_pat Np) + (1:Int32)) (NP_patEnd Np) (1:Int32)))
  else
  if q1 = (107:Int32) then
    some ((0:Int32), (NP_mk (NP_nodeKind Np) (NP_nodeA Np) (NP_nodeB Np) (NP_nodeC Np) (NP_nodeNext Np) (NP_low Np) (NP_high Np) (NP_setFrom Np) (NP_setTo Np) (NP_setNot Np) (NP_nodes Np) (NP_sets Np) (NP_ranges Np) ((NP_pat Np) + (1:Int32)) (NP_patEnd Np) (1:Int32)))
  else
  if q1 = (108:Int32) then
    some ((0:Int32), (NP_mk (NP_nodeKind Np) (NP_nodeA Np) (NP_nodeB Np) (NP_nodeC Np) (NP_nodeNext Np) (NP_low Np) (NP_high Np) (NP_setFrom Np) (NP_setTo Np) (NP_setNot Np) (NP_nodes Np) (NP_sets Np) (NP_ranges Np) ((NP_pat Np) + (1:Int32)) (NP_patEnd Np) (1:Int32)))
  else
  if q1 = (109:Int32) then
    some ((0:Int32), (NP_mk (NP_nodeKind Np) (NP_nodeA Np) (NP_nodeB Np) (NP_nodeC Np) (NP_nodeNext Np) (NP_low Np) (NP_high Np) (NP_setFrom Np) (NP_setTo Np) (NP_setNot Np) (NP_nodes Np) (NP_sets Np) (NP_ranges Np) ((NP_pat Np) + (1:Int32)) (NP_patEnd Np) (1:Int32)))
  else
  if q1 = (110:Int32) then
    some ((10:Int32), (NP_mk (NP_nodeKind Np) (NP_nodeA Np) (NP_nodeB Np) (NP_nodeC Np) (NP_nodeNext Np) (NP_low Np) (NP_high Np) (NP_setFrom Np) (NP_setTo Np) (NP_setNot Np) (NP_nodes Np) (NP_sets Np) (NP_ranges Np) ((NP_pat Np) + (1:Int32)) (NP_patEnd Np) (NP_broken Np)))
  else
  if q1 = (111:Int32) then
    some ((0:Int32), (NP_mk (NP_nodeKind Np) (NP_nodeA Np) (NP_nodeB Np) (NP_nodeC Np) (NP_nodeNext Np) (NP_low Np) (NP_high Np) (NP_setFrom Np) (NP_setTo Np) (NP_setNot Np) (NP_nodes Np) (NP_sets Np) (NP_ranges Np) ((NP_pat Np) + (1:Int32)) (NP_patEnd Np) (1:Int32)))
  else
  if q1 = (112:Int32) then
    some ((0:Int32), (NP_mk (NP_nodeKind Np) (NP_nodeA Np) (NP_nodeB Np) (NP_nodeC Np) (NP_nodeNext Np) (NP_low Np) (NP_high Np) (NP_setFrom Np) (NP_setTo Np) (NP_setNot Np) (NP_nodes Np) (NP_sets Np) (NP_ranges Np) ((NP_pat Np) + (1:Int32)) (NP_patEnd Np) (1:Int32)))
  else
  if q1 = (113:Int32) then
    some ((0:Int32), (NP_mk (NP_nodeKind Np) (NP_nodeA Np) (NP_nodeB Np) (NP_nodeC Np) (NP_nodeNext Np) (NP_low Np) (NP_high Np) (NP_setFrom Np) (NP_setTo Np) (NP_setNot Np) (NP_nodes Np) (NP_sets Np) (NP_ranges Np) ((NP_pat Np) + (1:Int32)) (NP_patEnd Np) (1:Int32)))
  else
  if q1 = (114:Int32) then
    some ((13:Int32), (NP_mk (NP_nodeKind Np) (NP_nodeA Np) (NP_nodeB Np) (NP_nodeC Np) (NP_nodeNext Np) (NP_low Np) (NP_high Np) (NP_setFrom Np) (NP_setTo Np) (NP_setNot Np) (NP_nodes Np) (NP_sets Np) (NP_ranges Np) ((NP_pat Np) + (1:Int32)) (NP_patEnd Np) (NP_broken Np)))
  else
  if q1 = (115:Int32) then
    o_bd (m_MM_set n q1 (NP_mk (NP_nodeKind Np) (NP_nodeA Np) (NP_nodeB Np) (NP_nodeC Np) (NP_nodeNext Np) (NP_low Np) (NP_high Np) (NP_setFrom Np) (NP_setTo Np) (NP_setNot Np) (NP_nodes Np) (NP_sets Np) (NP_ranges Np) ((NP_pat Np) + (1:Int32)) (NP_patEnd Np) (NP_broken Np))) fun q8 =>
    some ((-1:Int32), q8)
  else
  if q1 = (116:Int32) then
    some ((9:Int32), (NP_mk (NP_nodeKind Np) (NP_nodeA Np) (NP_nodeB Np) (NP_nodeC Np) (NP_nodeNext Np) (NP_low Np) (NP_high Np) (NP_setFrom Np) (NP_setTo Np) (NP_setNot Np) (NP_nodes Np) (NP_sets Np) (NP_ranges Np) ((NP_pat Np) + (1:Int32)) (NP_patEnd Np) (NP_broken Np)))
  else
  if q1 = (117:Int32) then
    o_bd (m_MM_unicode n tc (NP_mk (NP_nodeKind Np) (NP_nodeA Np) (NP_nodeB Np) (NP_nodeC Np) (NP_nodeNext Np) (NP_low Np) (NP_high Np) (NP_setFrom Np) (NP_setTo Np) (NP_setNot Np) (NP_nodes Np) (NP_sets Np) (NP_ranges Np) ((NP_pat Np) + (1:Int32)) (NP_patEnd Np) (NP_broken Np))) fun q9 =>
    some (q9.1, q9.2)
  else
  if q1 = (118:Int32) then
    some ((11:Int32), (NP_mk (NP_nodeKind Np) (NP_nodeA Np) (NP_nodeB Np) (NP_nodeC Np) (NP_nodeNext Np) (NP_low Np) (NP_high Np) (NP_setFrom Np) (NP_setTo Np) (NP_setNot Np) (NP_nodes Np) (NP_sets Np) (NP_ranges Np) ((NP_pat Np) + (1:Int32)) (NP_patEnd Np) (NP_broken Np)))
  else
  if q1 = (119:Int32) then
    o_bd (m_MM_set n q1 (NP_mk (NP_nodeKind Np) (NP_nodeA Np) (NP_nodeB Np) (NP_nodeC Np) (NP_nodeNext Np) (NP_low Np) (NP_high Np) (NP_setFrom Np) (NP_setTo Np) (NP_setNot Np) (NP_nodes Np) (NP_sets Np) (NP_ranges Np) ((NP_pat Np) + (1:Int32)) (NP_patEnd Np) (NP_broken Np))) fun q10 =>
    some ((-1:Int32), q10)
  else
  if q1 = (120:Int32) then
    o_bd (m_MM_hex n (2:Int32) tc (NP_mk (NP_nodeKind Np) (NP_nodeA Np) (NP_nodeB Np) (NP_nodeC Np) (NP_nodeNext Np) (NP_low Np) (NP_high Np) (NP_setFrom Np) (NP_setTo Np) (NP_setNot Np) (NP_nodes Np) (NP_sets Np) (NP_ranges Np) ((NP_pat Np) + (1:Int32)) (NP_patEnd Np) (NP_broken Np))) fun q11 =>
    some (q11.1, q11.2)
  else
  if q1 = (121:Int32) then
    some ((0:Int32), (NP_mk (NP_nodeKind Np) (NP_nodeA Np) (NP_nodeB Np) (NP_nodeC Np) (NP_nodeNext Np) (NP_low Np) (NP_high Np) (NP_setFrom Np) (NP_setTo Np) (NP_setNot Np) (NP_nodes Np) (NP_sets Np) (NP_ranges Np) ((NP_pat Np) + (1:Int32)) (NP_patEnd Np) (1:Int32)))
  else
  if q1 = (122:Int32) then
    some ((0:Int32), (NP_mk (NP_nodeKind Np) (NP_nodeA Np) (NP_nodeB Np) (NP_nodeC Np) (NP_nodeNext Np) (NP_low Np) (NP_high Np) (NP_setFrom Np) (NP_setTo Np) (NP_setNot Np) (NP_nodes Np) (NP_sets Np) (NP_ranges Np) ((NP_pat Np) + (1:Int32)) (NP_patEnd Np) (1:Int32)))
  else
  if q1 = (123:Int32) then
    some (q1, (NP_mk (NP_nodeKind Np) (NP_nodeA Np) (NP_nodeB Np) (NP_nodeC Np) (NP_nodeNext Np) (NP_low Np) (NP_high Np) (NP_setFrom Np) (NP_setTo Np) (NP_setNot Np) (NP_nodes Np) (NP_sets Np) (NP_ranges Np) ((NP_pat Np) + (1:Int32)) (NP_patEnd Np) (NP_broken Np)))
  else
  if q1 = (124:Int32) then
    some (q1, (NP_mk (NP_nodeKind Np) (NP_nodeA Np) (NP_nodeB Np) (NP_nodeC Np) (NP_nodeNext Np) (NP_low Np) (NP_high Np) (NP_setFrom Np) (NP_setTo Np) (NP_setNot Np) (NP_nodes Np) (NP_sets Np) (NP_ranges Np) ((NP_pat Np) + (1:Int32)) (NP_patEnd Np) (NP_broken Np)))
  else
  if q1 = (125:Int32) then
    some (q1, (NP_mk (NP_nodeKind Np) (NP_nodeA Np) (NP_nodeB Np) (NP_nodeC Np) (NP_nodeNext Np) (NP_low Np) (NP_high Np) (NP_setFrom Np) (NP_setTo Np) (NP_setNot Np) (NP_nodes Np) (NP_sets Np) (NP_ranges Np) ((NP_pat Np) + (1:Int32)) (NP_patEnd Np) (NP_broken Np)))
  else
  some ((0:Int32), (NP_mk (NP_nodeKind Np) (NP_nodeA Np) (NP_nodeB Np) (NP_nodeC Np) (NP_nodeNext Np) (NP_low Np) (NP_high Np) (NP_setFrom Np) (NP_setTo Np) (NP_setNot Np) (NP_nodes Np) (NP_sets Np) (NP_ranges Np) ((NP_pat Np) + (1:Int32)) (NP_patEnd Np) (1:Int32)))
def m_MM_item (n : Nat) (tc : SMT) (Np : SNP) : Option (Int32 × SNP) :=
  o_bd (m_MM_p (0:Int32) tc Np) fun q1 =>
  if q1 = (92:Int32) then
    o_bd (m_MM_escape n (1:Int32) tc (NP_mk (NP_nodeKind Np) (NP_nodeA Np) (NP_nodeB Np) (NP_nodeC Np) (NP_nodeNext Np) (NP_low Np) (NP_high Np) (NP_setFrom Np) (NP_setTo Np) (NP_setNot Np) (NP_nodes Np) (NP_sets Np) (NP_ranges Np) ((NP_pat Np) + (1:Int32)) (NP_patEnd Np) (NP_broken Np))) fun q2 =>
    some (q2.1, q2.2)
  else
    some (q1, (NP_mk (NP_nodeKind Np) (NP_nodeA Np) (NP_nodeB Np) (NP_nodeC Np) (NP_nodeNext Np) (NP_low Np) (NP_high Np) (NP_setFrom Np) (NP_setTo Np) (NP_setNot Np) (NP_nodes Np) (NP_sets Np) (NP_ranges Np) ((NP_pat Np) + (1:Int32)) (NP_patEnd Np) (NP_broken Np)))
def m_MM_close (x1 : Int32) (x2 : Int32) (Np : SNP) : Option (Int32 × SNP) :=
  o_gd (o_in (NP_sets Np) 8000) <|
  o_gd (o_in (NP_sets Np) 8000) <|
  o_gd (o_in (NP_sets Np) 8000) <|
  o_bd (m_MM_node (1:Int32) (NP_sets Np) (NP_mk (NP_nodeKind Np) (NP_nodeA Np) (NP_nodeB Np) (NP_nodeC Np) (NP_nodeNext Np) (NP_low Np) (NP_high Np) (upd (NP_setFrom Np) (NP_sets Np).toNatClampNeg x1) (upd (NP_setTo Np) (NP_sets Np).toNatClampNeg (NP_ranges Np)) (upd (NP_setNot Np) (NP_sets Np).toNatClampNeg (vp_nar .boolean x2)) (NP_nodes Np) ((NP_sets Np) + (1:Int32)) (NP_ranges Np) (NP_pat Np) (NP_patEnd Np) (NP_broken Np))) fun q1 =>
  some (q1.1, q1.2)
def m_MM_choice_j123 (n : Nat) (x1 : Int32) (x2 : Int32) (x3 : Int32) (tc : SMT) (Np : SNP) : Option (Nat × SNP) :=
  if x3 < 0 then
    some (0, Np)
  else
    o_bd (m_MM_range x3 x3 Np) fun q6 =>
    some (0, q6)
def m_MM_choice_b45 (n : Nat) (x1 : Int32) (x2 : Int32) (tc : SMT) (z : SNP) : Option (Nat × SNP) :=
  if (NP_broken z) = 0 then
    o_bd (m_MM_p (0:Int32) tc z) fun q3 =>
    if q3 = (93:Int32) then
      some (4, z)
    else
      if (NP_pat z) < (NP_patEnd z) then
        o_bd (m_MM_item n tc z) fun q4 =>
        if (NP_broken q4.2) = 0 then
          o_bd (m_MM_p (0:Int32) tc q4.2) fun q5 =>
          if q5 = (45:Int32) then
            o_bd (m_MM_p (1:Int32) tc q4.2) fun q7 =>
            if q7 = (93:Int32) then
              m_MM_choice_j123 n x1 x2 q4.1 tc q4.2
            else
              o_bd (m_MM_p (1:Int32) tc q4.2) fun q8 =>
              if 0 ≤ q8 then
                o_bd (m_MM_item n tc (NP_mk (NP_nodeKind q4.2) (NP_nodeA q4.2) (NP_nodeB q4.2) (NP_nodeC q4.2) (NP_nodeNext q4.2) (NP_low q4.2) (NP_high q4.2) (NP_setFrom q4.2) (NP_setTo q4.2) (NP_setNot q4.2) (NP_nodes q4.2) (NP_sets q4.2) (NP_ranges q4.2) ((NP_pat q4.2) + (1:Int32)) (NP_patEnd q4.2) (NP_broken q4.2))) fun q9 =>
                if (NP_broken q9.2) = 0 then
                  if q4.1 < 0 then
                    some (3, q9.2)
                  else
                    if q9.1 < 0 then
                      some (3, q9.2)
                    else
                      if q4.1 ≤ q9.1 then
                        o_bd (m_MM_range q4.1 q9.1 q9.2) fun q10 =>
                        some (0, q10)
                      else
                        some (3, q9.2)
                else
                  some (3, q9.2)
              else
                m_MM_choice_j123 n x1 x2 q4.1 tc q4.2
          else
            m_MM_choice_j123 n x1 x2 q4.1 tc q4.2
        else
          some (2, q4.2)
      else
        some (1, z)
  else
    some (4, z)
def m_MM_choice_j174 (n : Nat) (tc : SMT) (Np : SNP) : Option (Int32 × SNP) :=
  o_bd (m_MM_no Np) fun q14 =>
  some (q14.1, q14.2)
def m_MM_choice_j189 (n : Nat) (x1 : Int32) (x2 : Int32) (tc : SMT) (Np : SNP) : Option (Int32 × SNP) :=
  if (NP_broken Np) = 0 then
    o_bd (m_MM_close x2 x1 (NP_mk (NP_nodeKind Np) (NP_nodeA Np) (NP_nodeB Np) (NP_nodeC Np) (NP_nodeNext Np) (NP_low Np) (NP_high Np) (NP_setFrom Np) (NP_setTo Np) (NP_setNot Np) (NP_nodes Np) (NP_sets Np) (NP_ranges Np) ((NP_pat Np) + (1:Int32)) (NP_patEnd Np) (NP_broken Np))) fun q15 =>
    some (q15.1, q15.2)
  else
    o_bd (m_MM_no Np) fun q16 =>
    some (q16.1, q16.2)
def m_MM_choice_j40 (n : Nat) (x1 : Int32) (tc : SMT) (Np : SNP) : Option (Int32 × SNP) :=
  o_bd (m_MM_begin Np) fun q2 =>
  o_bd (o_lp n (m_MM_choice_b45 n x1 q2 tc) (Np)) fun q11 =>
  if q11.1 = 1 then
    o_bd (m_MM_no q11.2) fun q12 =>
    some (q12.1, q12.2)
  else
  if q11.1 = 2 then
    o_bd (m_MM_no q11.2) fun q13 =>
    some (q13.1, q13.2)
  else
  if q11.1 = 3 then
    m_MM_choice_j174 n tc q11.2
  else
  m_MM_choice_j189 n x1 q2 tc q11.2
def m_MM_choice_j25 (n : Nat) (y0 : Int32) (tc : SMT) (Np : SNP) : Option (Int32 × SNP) :=
  if y0 = 0 then
    m_MM_choice_j40 n y0 tc Np
  else
    m_MM_choice_j40 n y0 tc (NP_mk (NP_nodeKind Np) (NP_nodeA Np) (NP_nodeB Np) (NP_nodeC Np) (NP_nodeNext Np) (NP_low Np) (NP_high Np) (NP_setFrom Np) (NP_setTo Np) (NP_setNot Np) (NP_nodes Np) (NP_sets Np) (NP_ranges Np) ((NP_pat Np) + (1:Int32)) (NP_patEnd Np) (NP_broken Np))
def m_MM_choice (n : Nat) (tc : SMT) (Np : SNP) : Option (Int32 × SNP) :=
  o_bd (m_MM_p (0:Int32) tc (NP_mk (NP_nodeKind Np) (NP_nodeA Np) (NP_nodeB Np) (NP_nodeC Np) (NP_nodeNext Np) (NP_low Np) (NP_high Np) (NP_setFrom Np) (NP_setTo Np) (NP_setNot Np) (NP_nodes Np) (NP_sets Np) (NP_ranges Np) ((NP_pat Np) + (1:Int32)) (NP_patEnd Np) (NP_broken Np))) fun q1 =>
  if q1 = (94:Int32) then
    m_MM_choice_j25 n (1:Int32) tc (NP_mk (NP_nodeKind Np) (NP_nodeA Np) (NP_nodeB Np) (NP_nodeC Np) (NP_nodeNext Np) (NP_low Np) (NP_high Np) (NP_setFrom Np) (NP_setTo Np) (NP_setNot Np) (NP_nodes Np) (NP_sets Np) (NP_ranges Np) ((NP_pat Np) + (1:Int32)) (NP_patEnd Np) (NP_broken Np))
  else
    m_MM_choice_j25 n (0:Int32) tc (NP_mk (NP_nodeKind Np) (NP_nodeA Np) (NP_nodeB Np) (NP_nodeC Np) (NP_nodeNext Np) (NP_low Np) (NP_high Np) (NP_setFrom Np) (NP_setTo Np) (NP_setNot Np) (NP_nodes Np) (NP_sets Np) (NP_ranges Np) ((NP_pat Np) + (1:Int32)) (NP_patEnd Np) (NP_broken Np))
def m_MM_number_b4 (n : Nat) (tc : SMT) (z : Int32 × Int32 × SNP) : Option (Nat × Int32 × Int32 × SNP) :=
  o_bd (m_MM_p (0:Int32) tc z.2.2) fun q1 =>
  o_bd (m_MM_in q1 (48:Int32) (57:Int32)) fun q2 =>
  if q2 = 0 then
    some (2, z.1, z.2.1, z.2.2)
  else
    o_bd (m_MM_p (0:Int32) tc z.2.2) fun q3 =>
    o_nm ((((10:Int32) * z.1) + q3) - (48:Int32)) fun x1_32 =>
    o_nm (z.2.1 + (1:Int32)) fun x2_43 =>
    if x2_43 ≤ (3:Int32) then
      some (0, x1_32, x2_43, (NP_mk (NP_nodeKind z.2.2) (NP_nodeA z.2.2) (NP_nodeB z.2.2) (NP_nodeC z.2.2) (NP_nodeNext z.2.2) (NP_low z.2.2) (NP_high z.2.2) (NP_setFrom z.2.2) (NP_setTo z.2.2) (NP_setNot z.2.2) (NP_nodes z.2.2) (NP_sets z.2.2) (NP_ranges z.2.2) ((NP_pat z.2.2) + (1:Int32)) (NP_patEnd z.2.2) (NP_broken z.2.2)))
    else
      some (1, x1_32, x2_43, (NP_mk (NP_nodeKind z.2.2) (NP_nodeA z.2.2) (NP_nodeB z.2.2) (NP_nodeC z.2.2) (NP_nodeNext z.2.2) (NP_low z.2.2) (NP_high z.2.2) (NP_setFrom z.2.2) (NP_setTo z.2.2) (NP_setNot z.2.2) (NP_nodes z.2.2) (NP_sets z.2.2) (NP_ranges z.2.2) ((NP_pat z.2.2) + (1:Int32)) (NP_patEnd z.2.2) (NP_broken z.2.2)))
def m_MM_number (n : Nat) (tc : SMT) (Np : SNP) : Option (Int32 × SNP) :=
  o_bd (o_lp n (m_MM_number_b4 n tc) ((0:Int32), (0:Int32), Np)) fun q4 =>
  if q4.1 = 1 then
    some ((0:Int32), (NP_mk (NP_nodeKind q4.2.2.2) (NP_nodeA q4.2.2.2) (NP_nodeB q4.2.2.2) (NP_nodeC q4.2.2.2) (NP_nodeNext q4.2.2.2) (NP_low q4.2.2.2) (NP_high q4.2.2.2) (NP_setFrom q4.2.2.2) (NP_setTo q4.2.2.2) (NP_setNot q4.2.2.2) (NP_nodes q4.2.2.2) (NP_sets q4.2.2.2) (NP_ranges q4.2.2.2) (NP_pat q4.2.2.2) (NP_patEnd q4.2.2.2) (1:Int32)))
  else
  if q4.2.2.1 = 0 then
    some (q4.2.1, (NP_mk (NP_nodeKind q4.2.2.2) (NP_nodeA q4.2.2.2) (NP_nodeB q4.2.2.2) (NP_nodeC q4.2.2.2) (NP_nodeNext q4.2.2.2) (NP_low q4.2.2.2) (NP_high q4.2.2.2) (NP_setFrom q4.2.2.2) (NP_setTo q4.2.2.2) (NP_setNot q4.2.2.2) (NP_nodes q4.2.2.2) (NP_sets q4.2.2.2) (NP_ranges q4.2.2.2) (NP_pat q4.2.2.2) (NP_patEnd q4.2.2.2) (1:Int32)))
  else
    if q4.2.1 ≤ (50:Int32) then
      some (q4.2.1, q4.2.2.2)
    else
      some (q4.2.1, (NP_mk (NP_nodeKind q4.2.2.2) (NP_nodeA q4.2.2.2) (NP_nodeB q4.2.2.2) (NP_nodeC q4.2.2.2) (NP_nodeNext q4.2.2.2) (NP_low q4.2.2.2) (NP_high q4.2.2.2) (NP_setFrom q4.2.2.2) (NP_setTo q4.2.2.2) (NP_setNot q4.2.2.2) (NP_nodes q4.2.2.2) (NP_sets q4.2.2.2) (NP_ranges q4.2.2.2) (NP_pat q4.2.2.2) (NP_patEnd q4.2.2.2) (1:Int32)))
def m_MM_often_j172 (n : Nat) (tc : SMT) (Np : SNP) : Option (Int32 × SNP) :=
  o_bd (m_MM_no Np) fun q3 =>
  some (q3.1, q3.2)
def m_MM_often_j212 (n : Nat) (x1 : Int32) (x3 : Int32) (x4 : Int32) (tc : SMT) (Np : SNP) : Option (Int32 × SNP) :=
  o_bd (m_MM_node (6:Int32) x1 Np) fun q6 =>
  o_gd (o_in q6.1 16000) <|
  o_gd (o_in q6.1 16000) <|
  some (q6.1, (NP_mk (NP_nodeKind q6.2) (NP_nodeA q6.2) (upd (NP_nodeB q6.2) q6.1.toNatClampNeg x3) (upd (NP_nodeC q6.2) q6.1.toNatClampNeg x4) (NP_nodeNext q6.2) (NP_low q6.2) (NP_high q6.2) (NP_setFrom q6.2) (NP_setTo q6.2) (NP_setNot q6.2) (NP_nodes q6.2) (NP_sets q6.2) (NP_ranges q6.2) (NP_pat q6.2) (NP_patEnd q6.2) (NP_broken q6.2)))
def m_MM_often_j192 (n : Nat) (x1 : Int32) (x3 : Int32) (x4 : Int32) (tc : SMT) (Np : SNP) : Option (Int32 × SNP) :=
  o_bd (m_MM_p (0:Int32) tc Np) fun q5 =>
  if q5 = (63:Int32) then
    m_MM_often_j212 n x1 x3 x4 tc (NP_mk (NP_nodeKind Np) (NP_nodeA Np) (NP_nodeB Np) (NP_nodeC Np) (NP_nodeNext Np) (NP_low Np) (NP_high Np) (NP_setFrom Np) (NP_setTo Np) (NP_setNot Np) (NP_nodes Np) (NP_sets Np) (NP_ranges Np) ((NP_pat Np) + (1:Int32)) (NP_patEnd Np) (NP_broken Np))
  else
    m_MM_often_j212 n x1 x3 x4 tc Np
def m_MM_often_j177 (n : Nat) (x1 : Int32) (x3 : Int32) (x4 : Int32) (tc : SMT) (Np : SNP) : Option (Int32 × SNP) :=
  m_MM_often_j192 n x1 x3 x4 tc (NP_mk (NP_nodeKind Np) (NP_nodeA Np) (NP_nodeB Np) (NP_nodeC Np) (NP_nodeNext Np) (NP_low Np) (NP_high Np) (NP_setFrom Np) (NP_setTo Np) (NP_setNot Np) (NP_nodes Np) (NP_sets Np) (NP_ranges Np) ((NP_pat Np) + (1:Int32)) (NP_patEnd Np) (NP_broken Np))
def m_MM_often_j144 (n : Nat) (x1 : Int32) (x3 : Int32) (x4 : Int32) (tc : SMT) (Np : SNP) : Option (Int32 × SNP) :=
  if (NP_broken Np) = 0 then
    o_bd (m_MM_p (0:Int32) tc Np) fun q4 =>
    if q4 = (125:Int32) then
      if x4 < 0 then
        m_MM_often_j177 n x1 x3 x4 tc Np
      else
        if x3 ≤ x4 then
          m_MM_often_j177 n x1 x3 x4 tc Np
        else
          m_MM_often_j172 n tc Np
    else
      m_MM_often_j172 n tc Np
  else
    m_MM_often_j172 n tc Np
def m_MM_often (n : Nat) (x1 : Int32) (tc : SMT) (Np : SNP) : Option (Int32 × SNP) :=
  o_bd (m_MM_p (0:Int32) tc Np) fun q1 =>
  if q1 = (42:Int32) then
    m_MM_often_j192 n x1 (0:Int32) (-1:Int32) tc (NP_mk (NP_nodeKind Np) (NP_nodeA Np) (NP_nodeB Np) (NP_nodeC Np) (NP_nodeNext Np) (NP_low Np) (NP_high Np) (NP_setFrom Np) (NP_setTo Np) (NP_setNot Np) (NP_nodes Np) (NP_sets Np) (NP_ranges Np) ((NP_pat Np) + (1:Int32)) (NP_patEnd Np) (NP_broken Np))
  else
    if q1 = (43:Int32) then
      m_MM_often_j192 n x1 (1:Int32) (-1:Int32) tc (NP_mk (NP_nodeKind Np) (NP_nodeA Np) (NP_nodeB Np) (NP_nodeC Np) (NP_nodeNext Np) (NP_low Np) (NP_high Np) (NP_setFrom Np) (NP_setTo Np) (NP_setNot Np) (NP_nodes Np) (NP_sets Np) (NP_ranges Np) ((NP_pat Np) + (1:Int32)) (NP_patEnd Np) (NP_broken Np))
    else
      if q1 = (63:Int32) then
        m_MM_often_j192 n x1 (0:Int32) (1:Int32) tc (NP_mk (NP_nodeKind Np) (NP_nodeA Np) (NP_nodeB Np) (NP_nodeC Np) (NP_nodeNext Np) (NP_low Np) (NP_high Np) (NP_setFrom Np) (NP_setTo Np) (NP_setNot Np) (NP_nodes Np) (NP_sets Np) (NP_ranges Np) ((NP_pat Np) + (1:Int32)) (NP_patEnd Np) (NP_broken Np))
      else
        if q1 = (123:Int32) then
          o_bd (m_MM_number n tc (NP_mk (NP_nodeKind Np) (NP_nodeA Np) (NP_nodeB Np) (NP_nodeC Np) (NP_nodeNext Np) (NP_low Np) (NP_high Np) (NP_setFrom Np) (NP_setTo Np) (NP_setNot Np) (NP_nodes Np) (NP_sets Np) (NP_ranges Np) ((NP_pat Np) + (1:Int32)) (NP_patEnd Np) (NP_broken Np))) fun q2 =>
          if (NP_broken q2.2) = 0 then
            o_bd (m_MM_p (0:Int32) tc q2.2) fun q7 =>
            if q7 = (44:Int32) then
              o_bd (m_MM_p (0:Int32) tc (NP_mk (NP_nodeKind q2.2) (NP_nodeA q2.2) (NP_nodeB q2.2) (NP_nodeC q2.2) (NP_nodeNext q2.2) (NP_low q2.2) (NP_high q2.2) (NP_setFrom q2.2) (NP_setTo q2.2) (NP_setNot q2.2) (NP_nodes q2.2) (NP_sets q2.2) (NP_ranges q2.2) ((NP_pat q2.2) + (1:Int32)) (NP_patEnd q2.2) (NP_broken q2.2))) fun q8 =>
              if q8 = (125:Int32) then
                m_MM_often_j144 n x1 q2.1 (-1:Int32) tc (NP_mk (NP_nodeKind q2.2) (NP_nodeA q2.2) (NP_nodeB q2.2) (NP_nodeC q2.2) (NP_nodeNext q2.2) (NP_low q2.2) (NP_high q2.2) (NP_setFrom q2.2) (NP_setTo q2.2) (NP_setNot q2.2) (NP_nodes q2.2) (NP_sets q2.2) (NP_ranges q2.2) ((NP_pat q2.2) + (1:Int32)) (NP_patEnd q2.2) (NP_broken q2.2))
              else
                o_bd (m_MM_number n tc (NP_mk (NP_nodeKind q2.2) (NP_nodeA q2.2) (NP_nodeB q2.2) (NP_nodeC q2.2) (NP_nodeNext q2.2) (NP_low q2.2) (NP_high q2.2) (NP_setFrom q2.2) (NP_setTo q2.2) (NP_setNot q2.2) (NP_nodes q2.2) (NP_sets q2.2) (NP_ranges q2.2) ((NP_pat q2.2) + (1:Int32)) (NP_patEnd q2.2) (NP_broken q2.2))) fun q9 =>
                m_MM_often_j144 n x1 q2.1 q9.1 tc q9.2
            else
              m_MM_often_j144 n x1 q2.1 q2.1 tc q2.2
          else
            m_MM_often_j144 n x1 q2.1 q2.1 tc q2.2
        else
          some (x1, Np)
def m_MM_one_j40 (n : Nat) (rec : Int32 → SMT → SNP → Option (Int32 × SNP)) (y1 : Int32) (tc : SMT) (Np : SNP) : Option (Int32 × SNP) :=
  o_bd (m_MM_node y1 (0:Int32) Np) fun q2 =>
  some (q2.1, q2.2)
def m_MM_one_j18 (n : Nat) (rec : Int32 → SMT → SNP → Option (Int32 × SNP)) (x2 : Int32) (tc : SMT) (Np : SNP) : Option (Int32 × SNP) :=
  if x2 = (94:Int32) then
    m_MM_one_j40 n rec (2:Int32) tc (NP_mk (NP_nodeKind Np) (NP_nodeA Np) (NP_nodeB Np) (NP_nodeC Np) (NP_nodeNext Np) (NP_low Np) (NP_high Np) (NP_setFrom Np) (NP_setTo Np) (NP_setNot Np) (NP_nodes Np) (NP_sets Np) (NP_ranges Np) ((NP_pat Np) + (1:Int32)) (NP_patEnd Np) (NP_broken Np))
  else
    m_MM_one_j40 n rec (3:Int32) tc (NP_mk (NP_nodeKind Np) (NP_nodeA Np) (NP_nodeB Np) (NP_nodeC Np) (NP_nodeNext Np) (NP_low Np) (NP_high Np) (NP_setFrom Np) (NP_setTo Np) (NP_setNot Np) (NP_nodes Np) (NP_sets Np) (NP_ranges Np) ((NP_pat Np) + (1:Int32)) (NP_patEnd Np) (NP_broken Np))
def m_MM_one_j313 (n : Nat) (rec : Int32 → SMT → SNP → Option (Int32 × SNP)) (tc : SMT) (Np : SNP) : Option (Int32 × SNP) :=
  o_bd (m_MM_no Np) fun q3 =>
  some (q3.1, q3.2)
def m_MM_one_j348 (n : Nat) (rec : Int32 → SMT → SNP → Option (Int32 × SNP)) (x3 : Int32) (tc : SMT) (Np : SNP) : Option (Int32 × SNP) :=
  if (NP_broken Np) = 0 then
    o_bd (m_MM_often n x3 tc Np) fun q7 =>
    some (q7.1, q7.2)
  else
    some (x3, Np)
def m_MM_one_j201 (n : Nat) (rec : Int32 → SMT → SNP → Option (Int32 × SNP)) (x4 : Int32) (tc : SMT) (Np : SNP) : Option (Int32 × SNP) :=
  o_bd (m_MM_close x4 (0:Int32) Np) fun q15 =>
  m_MM_one_j348 n rec q15.1 tc q15.2
def m_MM_one_j127 (n : Nat) (rec : Int32 → SMT → SNP → Option (Int32 × SNP)) (tc : SMT) (Np : SNP) : Option (Int32 × SNP) :=
  o_bd (m_MM_no Np) fun q20 =>
  some (q20.1, q20.2)
def m_MM_one_j102 (n : Nat) (rec : Int32 → SMT → SNP → Option (Int32 × SNP)) (x1 : Int32) (tc : SMT) (Np : SNP) : Option (Int32 × SNP) :=
  o_bd (rec (x1 + (1:Int32)) tc Np) fun q19 =>
  if (NP_broken q19.2) = 0 then
    o_bd (m_MM_p (0:Int32) tc q19.2) fun q21 =>
    if q21 = (41:Int32) then
      m_MM_one_j348 n rec q19.1 tc (NP_mk (NP_nodeKind q19.2) (NP_nodeA q19.2) (NP_nodeB q19.2) (NP_nodeC q19.2) (NP_nodeNext q19.2) (NP_low q19.2) (NP_high q19.2) (NP_setFrom q19.2) (NP_setTo q19.2) (NP_setNot q19.2) (NP_nodes q19.2) (NP_sets q19.2) (NP_ranges q19.2) ((NP_pat q19.2) + (1:Int32)) (NP_patEnd q19.2) (NP_broken q19.2))
    else
      m_MM_one_j127 n rec tc q19.2
  else
    m_MM_one_j127 n rec tc q19.2
def m_MM_one (n : Nat) (rec : Int32 → SMT → SNP → Option (Int32 × SNP)) (x1 : Int32) (tc : SMT) (Np : SNP) : Option (Int32 × SNP) :=
  o_bd (m_MM_p (0:Int32) tc Np) fun q1 =>
  if q1 = (94:Int32) then
    m_MM_one_j18 n rec q1 tc Np
  else
    if q1 = (36:Int32) then
      m_MM_one_j18 n rec q1 tc Np
    else
      if q1 = (40:Int32) then
        if x1 = (30:Int32) then
          o_bd (m_MM_no Np) fun q23 =>
          some (q23.1, q23.2)
        else
          o_bd (m_MM_p (0:Int32) tc (NP_mk (NP_nodeKind Np) (NP_nodeA Np) (NP_nodeB Np) (NP_nodeC Np) (NP_nodeNext Np) (NP_low Np) (NP_high Np) (NP_setFrom Np) (NP_setTo Np) (NP_setNot Np) (NP_nodes Np) (NP_sets Np) (NP_ranges Np) ((NP_pat Np) + (1:Int32)) (NP_patEnd Np) (NP_broken Np))) fun q18 =>
          if q18 = (63:Int32) then
            o_bd (m_MM_p (1:Int32) tc (NP_mk (NP_nodeKind Np) (NP_nodeA Np) (NP_nodeB Np) (NP_nodeC Np) (NP_nodeNext Np) (NP_low Np) (NP_high Np) (NP_setFrom Np) (NP_setTo Np) (NP_setNot Np) (NP_nodes Np) (NP_sets Np) (NP_ranges Np) ((NP_pat Np) + (1:Int32)) (NP_patEnd Np) (NP_broken Np))) fun q22 =>
            if q22 = (58:Int32) then
              m_MM_one_j102 n rec x1 tc (NP_mk (NP_nodeKind Np) (NP_nodeA Np) (NP_nodeB Np) (NP_nodeC Np) (NP_nodeNext Np) (NP_low Np) (NP_high Np) (NP_setFrom Np) (NP_setTo Np) (NP_setNot Np) (NP_nodes Np) (NP_sets Np) (NP_ranges Np) (((NP_pat Np) + (1:Int32)) + (2:Int32)) (NP_patEnd Np) (NP_broken Np))
            else
              m_MM_one_j102 n rec x1 tc (NP_mk (NP_nodeKind Np) (NP_nodeA Np) (NP_nodeB Np) (NP_nodeC Np) (NP_nodeNext Np) (NP_low Np) (NP_high Np) (NP_setFrom Np) (NP_setTo Np) (NP_setNot Np) (NP_nodes Np) (NP_sets Np) (NP_ranges Np) ((NP_pat Np) + (1:Int32)) (NP_patEnd Np) (NP_broken Np))
          else
            m_MM_one_j102 n rec x1 tc (NP_mk (NP_nodeKind Np) (NP_nodeA Np) (NP_nodeB Np) (NP_nodeC Np) (NP_nodeNext Np) (NP_low Np) (NP_high Np) (NP_setFrom Np) (NP_setTo Np) (NP_setNot Np) (NP_nodes Np) (NP_sets Np) (NP_ranges Np) ((NP_pat Np) + (1:Int32)) (NP_patEnd Np) (NP_broken Np))
      else
        if q1 = (91:Int32) then
          o_bd (m_MM_choice n tc Np) fun q17 =>
          m_MM_one_j348 n rec q17.1 tc q17.2
        else
          if q1 = (92:Int32) then
            o_bd (m_MM_begin (NP_mk (NP_nodeKind Np) (NP_nodeA Np) (NP_nodeB Np) (NP_nodeC Np) (NP_nodeNext Np) (NP_low Np) (NP_high Np) (NP_setFrom Np) (NP_setTo Np) (NP_setNot Np) (NP_nodes Np) (NP_sets Np) (NP_ranges Np) ((NP_pat Np) + (1:Int32)) (NP_patEnd Np) (NP_broken Np))) fun q13 =>
            o_bd (m_MM_escape n (0:Int32) tc (NP_mk (NP_nodeKind Np) (NP_nodeA Np) (NP_nodeB Np) (NP_nodeC Np) (NP_nodeNext Np) (NP_low Np) (NP_high Np) (NP_setFrom Np) (NP_setTo Np) (NP_setNot Np) (NP_nodes Np) (NP_sets Np) (NP_ranges Np) ((NP_pat Np) + (1:Int32)) (NP_patEnd Np) (NP_broken Np))) fun q14 =>
            if q14.1 < 0 then
              m_MM_one_j201 n rec q13 tc q14.2
            else
              o_bd (m_MM_range q14.1 q14.1 q14.2) fun q16 =>
              m_MM_one_j201 n rec q13 tc q16
          else
            if q1 = (46:Int32) then
              o_bd (m_MM_begin (NP_mk (NP_nodeKind Np) (NP_nodeA Np) (NP_nodeB Np) (NP_nodeC Np) (NP_nodeNext Np) (NP_low Np) (NP_high Np) (NP_setFrom Np) (NP_setTo Np) (NP_setNot Np) (NP_nodes Np) (NP_sets Np) (NP_ranges Np) ((NP_pat Np) + (1:Int32)) (NP_patEnd Np) (NP_broken Np))) fun q8 =>
              o_bd (m_MM_range (10:Int32) (10:Int32) (NP_mk (NP_nodeKind Np) (NP_nodeA Np) (NP_nodeB Np) (NP_nodeC Np) (NP_nodeNext Np) (NP_low Np) (NP_high Np) (NP_setFrom Np) (NP_setTo Np) (NP_setNot Np) (NP_nodes Np) (NP_sets Np) (NP_ranges Np) ((NP_pat Np) + (1:Int32)) (NP_patEnd Np) (NP_broken Np))) fun q9 =>
              o_bd (m_MM_range (13:Int32) (13:Int32) q9) fun q10 =>
              o_bd (m_MM_range (8232:Int32) (8233:Int32) q10) fun q11 =>
              o_bd (m_MM_close q8 (1:Int32) q11) fun q12 =>
              m_MM_one_j348 n rec q12.1 tc q12.2
            else
              if q1 = (42:Int32) then
                m_MM_one_j313 n rec tc Np
              else
                if q1 = (43:Int32) then
                  m_MM_one_j313 n rec tc Np
                else
                  if q1 = (63:Int32) then
                    m_MM_one_j313 n rec tc Np
                  else
                    if q1 = (41:Int32) then
                      m_MM_one_j313 n rec tc Np
                    else
                      if q1 = (93:Int32) then
                        m_MM_one_j313 n rec tc Np
                      else
                        if q1 = (123:Int32) then
                          m_MM_one_j313 n rec tc Np
                        else
                          if q1 = (125:Int32) then
                            m_MM_one_j313 n rec tc Np
                          else
                            o_bd (m_MM_begin (NP_mk (NP_nodeKind Np) (NP_nodeA Np) (NP_nodeB Np) (NP_nodeC Np) (NP_nodeNext Np) (NP_low Np) (NP_high Np) (NP_setFrom Np) (NP_setTo Np) (NP_setNot Np) (NP_nodes Np) (NP_sets Np) (NP_ranges Np) ((NP_pat Np) + (1:Int32)) (NP_patEnd Np) (NP_broken Np))) fun q4 =>
                            o_bd (m_MM_range q1 q1 (NP_mk (NP_nodeKind Np) (NP_nodeA Np) (NP_nodeB Np) (NP_nodeC Np) (NP_nodeNext Np) (NP_low Np) (NP_high Np) (NP_setFrom Np) (NP_setTo Np) (NP_setNot Np) (NP_nodes Np) (NP_sets Np) (NP_ranges Np) ((NP_pat Np) + (1:Int32)) (NP_patEnd Np) (NP_broken Np))) fun q5 =>
                            o_bd (m_MM_close q4 (0:Int32) q5) fun q6 =>
                            m_MM_one_j348 n rec q6.1 tc q6.2
def m_MM_row_b9 (n : Nat) (rec : Int32 → SMT → SNP → Option (Int32 × SNP)) (x1 : Int32) (x2 : Int32) (tc : SMT) (z : Int32 × SNP) : Option (Nat × Int32 × SNP) :=
  if (NP_broken z.2) = 0 then
    if (NP_patEnd z.2) ≤ (NP_pat z.2) then
      some (1, z.1, z.2)
    else
      o_bd (m_MM_p (0:Int32) tc z.2) fun q2 =>
      if q2 = (124:Int32) then
        some (1, z.1, z.2)
      else
        o_bd (m_MM_p (0:Int32) tc z.2) fun q3 =>
        if q3 = (41:Int32) then
          some (1, z.1, z.2)
        else
          o_bd (m_MM_one n rec x1 tc z.2) fun q4 =>
          if 0 ≤ z.1 then
            o_gd (o_in z.1 16000) <|
            some (0, q4.1, (NP_mk (NP_nodeKind q4.2) (NP_nodeA q4.2) (NP_nodeB q4.2) (NP_nodeC q4.2) (upd (NP_nodeNext q4.2) z.1.toNatClampNeg q4.1) (NP_low q4.2) (NP_high q4.2) (NP_setFrom q4.2) (NP_setTo q4.2) (NP_setNot q4.2) (NP_nodes q4.2) (NP_sets q4.2) (NP_ranges q4.2) (NP_pat q4.2) (NP_patEnd q4.2) (NP_broken q4.2)))
          else
            o_gd (o_in x2 16000) <|
            some (0, q4.1, (NP_mk (NP_nodeKind q4.2) (upd (NP_nodeA q4.2) x2.toNatClampNeg q4.1) (NP_nodeB q4.2) (NP_nodeC q4.2) (NP_nodeNext q4.2) (NP_low q4.2) (NP_high q4.2) (NP_setFrom q4.2) (NP_setTo q4.2) (NP_setNot q4.2) (NP_nodes q4.2) (NP_sets q4.2) (NP_ranges q4.2) (NP_pat q4.2) (NP_patEnd q4.2) (NP_broken q4.2)))
  else
    some (1, z.1, z.2)
def m_MM_row (n : Nat) (rec : Int32 → SMT → SNP → Option (Int32 × SNP)) (x1 : Int32) (tc : SMT) (Np : SNP) : Option (Int32 × SNP) :=
  o_bd (m_MM_node (4:Int32) (-1:Int32) Np) fun q1 =>
  o_bd (o_lp n (m_MM_row_b9 n rec x1 q1.1 tc) ((-1:Int32), q1.2)) fun q5 =>
  some (q1.1, q5.2.2)
def m_MM_ways_j48 (n : Nat) (rec : Int32 → SMT → SNP → Option (Int32 × SNP)) (x1 : Int32) (x2 : Int32) (x4 : Int32) (tc : SMT) (Np : SNP) : Option (Nat × Int32 × SNP) :=
  o_gd (o_in x2 16000) <|
  o_gd (o_in x2 16000) <|
  o_bd (m_MM_p (0:Int32) tc (NP_mk (NP_nodeKind Np) (NP_nodeA Np) (upd (NP_nodeB Np) x2.toNatClampNeg (((NP_nodeB Np) x2.toNatClampNeg) + (1:Int32))) (NP_nodeC Np) (NP_nodeNext Np) (NP_low Np) (NP_high Np) (NP_setFrom Np) (NP_setTo Np) (NP_setNot Np) (NP_nodes Np) (NP_sets Np) (NP_ranges Np) (NP_pat Np) (NP_patEnd Np) (NP_broken Np))) fun q3 =>
  if q3 = (124:Int32) then
    some (0, x4, (NP_mk (NP_nodeKind Np) (NP_nodeA Np) (upd (NP_nodeB Np) x2.toNatClampNeg (((NP_nodeB Np) x2.toNatClampNeg) + (1:Int32))) (NP_nodeC Np) (NP_nodeNext Np) (NP_low Np) (NP_high Np) (NP_setFrom Np) (NP_setTo Np) (NP_setNot Np) (NP_nodes Np) (NP_sets Np) (NP_ranges Np) ((NP_pat Np) + (1:Int32)) (NP_patEnd Np) (NP_broken Np)))
  else
    some (2, x4, (NP_mk (NP_nodeKind Np) (NP_nodeA Np) (upd (NP_nodeB Np) x2.toNatClampNeg (((NP_nodeB Np) x2.toNatClampNeg) + (1:Int32))) (NP_nodeC Np) (NP_nodeNext Np) (NP_low Np) (NP_high Np) (NP_setFrom Np) (NP_setTo Np) (NP_setNot Np) (NP_nodes Np) (NP_sets Np) (NP_ranges Np) (NP_pat Np) (NP_patEnd Np) (NP_broken Np)))
def m_MM_ways_b9 (n : Nat) (rec : Int32 → SMT → SNP → Option (Int32 × SNP)) (x1 : Int32) (x2 : Int32) (tc : SMT) (z : Int32 × SNP) : Option (Nat × Int32 × SNP) :=
  o_bd (m_MM_row n rec x1 tc z.2) fun q2 =>
  if (NP_broken q2.2) = 0 then
    if 0 ≤ z.1 then
      o_gd (o_in z.1 16000) <|
      m_MM_ways_j48 n rec x1 x2 q2.1 tc (NP_mk (NP_nodeKind q2.2) (NP_nodeA q2.2) (NP_nodeB q2.2) (NP_nodeC q2.2) (upd (NP_nodeNext q2.2) z.1.toNatClampNeg q2.1) (NP_low q2.2) (NP_high q2.2) (NP_setFrom q2.2) (NP_setTo q2.2) (NP_setNot q2.2) (NP_nodes q2.2) (NP_sets q2.2) (NP_ranges q2.2) (NP_pat q2.2) (NP_patEnd q2.2) (NP_broken q2.2))
    else
      o_gd (o_in x2 16000) <|
      m_MM_ways_j48 n rec x1 x2 q2.1 tc (NP_mk (NP_nodeKind q2.2) (upd (NP_nodeA q2.2) x2.toNatClampNeg q2.1) (NP_nodeB q2.2) (NP_nodeC q2.2) (NP_nodeNext q2.2) (NP_low q2.2) (NP_high q2.2) (NP_setFrom q2.2) (NP_setTo q2.2) (NP_setNot q2.2) (NP_nodes q2.2) (NP_sets q2.2) (NP_ranges q2.2) (NP_pat q2.2) (NP_patEnd q2.2) (NP_broken q2.2))
  else
    some (1, z.1, q2.2)
def m_MM_ways_F (n : Nat) (rec : Int32 → SMT → SNP → Option (Int32 × SNP)) (x1 : Int32) (tc : SMT) (Np : SNP) : Option (Int32 × SNP) :=
  o_bd (m_MM_node (5:Int32) (-1:Int32) Np) fun q1 =>
  o_bd (o_lp n (m_MM_ways_b9 n rec x1 q1.1 tc) ((-1:Int32), q1.2)) fun q4 =>
  if q4.1 = 1 then
    some (q1.1, q4.2.2)
  else
  some (q1.1, q4.2.2)
def m_MM_ways (n : Nat) : Nat → Int32 → SMT → SNP → Option (Int32 × SNP)
  | 0, _, _, _ => none
  | d + 1, v0, v1, v2 => m_MM_ways_F n (m_MM_ways n d) v0 v1 v2
def m_MM_size_b60 (n : Nat) (rec : Int32 → SNP → Option (Int64)) (x1 : Int32) (Np : SNP) (z : Int64 × Int32) : Option (Nat × Int64 × Int32) :=
  if z.2 < 0 then
    some (1, z.1, z.2)
  else
    o_bd (rec z.2 Np) fun q1 =>
    o_nm (if (1000000:Int64) < (z.1 + q1) then (1000000:Int64) else (z.1 + q1)) fun x2_79 =>
    o_gd (o_in z.2 16000) <|
    o_nm ((NP_nodeNext Np) z.2.toNatClampNeg) fun x4_87 =>
    some (0, x2_79, x4_87)
def m_MM_size_j171 (n : Nat) (rec : Int32 → SNP → Option (Int64)) (y0 : Int64) (y1 : Int64) (Np : SNP) : Option (Int64) :=
  some (if (1000000:Int64) < ((y0 + y1) + (1:Int64)) then (1000000:Int64) else ((y0 + y1) + (1:Int64)))
def m_MM_size_F (n : Nat) (rec : Int32 → SNP → Option (Int64)) (x1 : Int32) (Np : SNP) : Option (Int64) :=
  o_gd (o_in x1 16000) <|
  o_nm ((NP_nodeKind Np) x1.toNatClampNeg) fun w8 =>
  if w8 = (0:Int32) then
    some (0:Int64)
  else
  if w8 = (1:Int32) then
    some (1:Int64)
  else
  if w8 = (2:Int32) then
    some (1:Int64)
  else
  if w8 = (3:Int32) then
    some (1:Int64)
  else
  if w8 = (4:Int32) then
    o_gd (o_in x1 16000) <|
    o_nm ((NP_nodeA Np) x1.toNatClampNeg) fun x4_58 =>
    o_bd (o_lp n (m_MM_size_b60 n rec x1 Np) ((0:Int64), x4_58)) fun q2 =>
    o_gd (o_in x1 16000) <|
    if ((NP_nodeKind Np) x1.toNatClampNeg) = (5:Int32) then
      o_gd (o_in x1 16000) <|
      some ((q2.2.1 + ((NP_nodeB Np) x1.toNatClampNeg).toInt64) - (1:Int64))
    else
      some q2.2.1
  else
  if w8 = (5:Int32) then
    o_gd (o_in x1 16000) <|
    o_nm ((NP_nodeA Np) x1.toNatClampNeg) fun x4_58 =>
    o_bd (o_lp n (m_MM_size_b60 n rec x1 Np) ((0:Int64), x4_58)) fun q3 =>
    o_gd (o_in x1 16000) <|
    if ((NP_nodeKind Np) x1.toNatClampNeg) = (5:Int32) then
      o_gd (o_in x1 16000) <|
      some ((q3.2.1 + ((NP_nodeB Np) x1.toNatClampNeg).toInt64) - (1:Int64))
    else
      some q3.2.1
  else
  if w8 = (6:Int32) then
    o_gd (o_in x1 16000) <|
    o_bd (rec ((NP_nodeA Np) x1.toNatClampNeg) Np) fun q4 =>
    o_nm (if q4 < (1:Int64) then (1:Int64) else q4) fun x2_132 =>
    o_gd (o_in x1 16000) <|
    o_gd (o_in x1 16000) <|
    if 0 ≤ ((NP_nodeC Np) x1.toNatClampNeg) then
      o_gd (o_in x1 16000) <|
      o_gd (o_in x1 16000) <|
      m_MM_size_j171 n rec (((NP_nodeB Np) x1.toNatClampNeg).toInt64 * x2_132) ((((NP_nodeC Np) x1.toNatClampNeg) - ((NP_nodeB Np) x1.toNatClampNeg)).toInt64 * x2_132) Np
    else
      m_MM_size_j171 n rec (((NP_nodeB Np) x1.toNatClampNeg).toInt64 * x2_132) x2_132 Np
  else
  some (1:Int64)
def m_MM_size (n : Nat) : Nat → Int32 → SNP → Option (Int64)
  | 0, _, _ => none
  | d + 1, v0, v1 => m_MM_size_F n (m_MM_size n d) v0 v1
def m_MM_step (x1 : Int32) (x2 : Int32) (x3 : Int32) (No : SNO) : Option (Int32 × SNO) :=
  o_gd (o_in (NO_steps No) 25000) <|
  o_gd (o_in (NO_steps No) 25000) <|
  o_gd (o_in (NO_steps No) 25000) <|
  some ((NO_steps No), (NO_mk (upd (NO_op No) (NO_steps No).toNatClampNeg x1) (upd (NO_opA No) (NO_steps No).toNatClampNeg x2) (upd (NO_opB No) (NO_steps No).toNatClampNeg x3) ((NO_steps No) + (1:Int32))))
def m_MM_compile_b89 (n : Nat) (rec : Int32 → SNP → SNO → Option (SNO)) (Np : SNP) (z : Int32 × SNO) : Option (Nat × Int32 × SNO) :=
  if z.1 < 0 then
    some (1, z.1, z.2)
  else
    o_bd (rec z.1 Np z.2) fun q4 =>
    o_gd (o_in z.1 16000) <|
    o_nm ((NP_nodeNext Np) z.1.toNatClampNeg) fun x2_104 =>
    some (0, x2_104, q4)
def m_MM_compile_b120 (n : Nat) (rec : Int32 → SNP → SNO → Option (SNO)) (Np : SNP) (z : Int32 × Int32 × SNO) : Option (Nat × Int32 × Int32 × SNO) :=
  if z.2.1 < 0 then
    some (2, z.1, z.2.1, z.2.2)
  else
    o_gd (o_in z.2.1 16000) <|
    if 0 ≤ ((NP_nodeNext Np) z.2.1.toNatClampNeg) then
      o_bd (m_MM_step (4:Int32) ((NO_steps z.2.2) + (1:Int32)) (0:Int32) z.2.2) fun q6 =>
      o_bd (rec z.2.1 Np q6.2) fun q7 =>
      o_bd (m_MM_step (5:Int32) z.1 (0:Int32) q7) fun q8 =>
      o_gd (o_in q6.1 25000) <|
      o_gd (o_in z.2.1 16000) <|
      o_nm ((NP_nodeNext Np) z.2.1.toNatClampNeg) fun x3_185 =>
      some (0, q8.1, x3_185, (NO_mk (NO_op q8.2) (NO_opA q8.2) (upd (NO_opB q8.2) q6.1.toNatClampNeg (NO_steps q8.2)) (NO_steps q8.2)))
    else
      some (1, z.1, z.2.1, z.2.2)
def m_MM_compile_b189 (n : Nat) (rec : Int32 → SNP → SNO → Option (SNO)) (Np : SNP) (z : Int32 × SNO) : Option (Nat × Int32 × SNO) :=
  if z.1 < 0 then
    some (1, z.1, z.2)
  else
    o_gd (o_in z.1 25000) <|
    o_nm ((NO_opA z.2) z.1.toNatClampNeg) fun x3_199 =>
    o_gd (o_in z.1 25000) <|
    some (0, x3_199, (NO_mk (NO_op z.2) (upd (NO_opA z.2) z.1.toNatClampNeg (NO_steps z.2)) (NO_opB z.2) (NO_steps z.2)))
def m_MM_compile_b217 (n : Nat) (rec : Int32 → SNP → SNO → Option (SNO)) (x1 : Int32) (Np : SNP) (z : Int32 × SNO) : Option (Nat × Int32 × SNO) :=
  o_gd (o_in x1 16000) <|
  if ((NP_nodeB Np) x1.toNatClampNeg) ≤ z.1 then
    some (1, z.1, z.2)
  else
    o_gd (o_in x1 16000) <|
    o_bd (rec ((NP_nodeA Np) x1.toNatClampNeg) Np z.2) fun q13 =>
    o_nm (z.1 + (1:Int32)) fun x2_237 =>
    some (0, x2_237, q13)
def m_MM_compile_b305 (n : Nat) (rec : Int32 → SNP → SNO → Option (SNO)) (x1 : Int32) (Np : SNP) (z : Int32 × Int32 × SNO) : Option (Nat × Int32 × Int32 × SNO) :=
  o_gd (o_in x1 16000) <|
  if ((NP_nodeC Np) x1.toNatClampNeg) ≤ z.2.1 then
    some (1, z.1, z.2.1, z.2.2)
  else
    o_bd (m_MM_step (4:Int32) ((NO_steps z.2.2) + (1:Int32)) z.1 z.2.2) fun q15 =>
    o_gd (o_in x1 16000) <|
    o_bd (rec ((NP_nodeA Np) x1.toNatClampNeg) Np q15.2) fun q16 =>
    o_nm (z.2.1 + (1:Int32)) fun x3_342 =>
    some (0, q15.1, x3_342, q16)
def m_MM_compile_b348 (n : Nat) (rec : Int32 → SNP → SNO → Option (SNO)) (Np : SNP) (z : Int32 × SNO) : Option (Nat × Int32 × SNO) :=
  if z.1 < 0 then
    some (1, z.1, z.2)
  else
    o_gd (o_in z.1 25000) <|
    o_nm ((NO_opB z.2) z.1.toNatClampNeg) fun x3_358 =>
    o_gd (o_in z.1 25000) <|
    some (0, x3_358, (NO_mk (NO_op z.2) (NO_opA z.2) (upd (NO_opB z.2) z.1.toNatClampNeg (NO_steps z.2)) (NO_steps z.2)))
def m_MM_compile_F (n : Nat) (rec : Int32 → SNP → SNO → Option (SNO)) (x1 : Int32) (Np : SNP) (No : SNO) : Option (SNO) :=
  o_gd (o_in x1 16000) <|
  o_nm ((NP_nodeKind Np) x1.toNatClampNeg) fun w6 =>
  if w6 = (1:Int32) then
    o_gd (o_in x1 16000) <|
    o_bd (m_MM_step (1:Int32) ((NP_nodeA Np) x1.toNatClampNeg) (0:Int32) No) fun q1 =>
    some q1.2
  else
  if w6 = (2:Int32) then
    o_bd (m_MM_step (2:Int32) (0:Int32) (0:Int32) No) fun q2 =>
    some q2.2
  else
  if w6 = (3:Int32) then
    o_bd (m_MM_step (3:Int32) (0:Int32) (0:Int32) No) fun q3 =>
    some q3.2
  else
  if w6 = (4:Int32) then
    o_gd (o_in x1 16000) <|
    o_nm ((NP_nodeA Np) x1.toNatClampNeg) fun x2_88 =>
    o_bd (o_lp n (m_MM_compile_b89 n rec Np) (x2_88, No)) fun q5 =>
    some q5.2.2
  else
  if w6 = (5:Int32) then
    o_gd (o_in x1 16000) <|
    o_nm ((NP_nodeA Np) x1.toNatClampNeg) fun x3_119 =>
    o_bd (o_lp n (m_MM_compile_b120 n rec Np) ((-1:Int32), x3_119, No)) fun q9 =>
    if q9.1 = 1 then
      o_bd (rec q9.2.2.1 Np q9.2.2.2) fun q10 =>
      o_bd (o_lp n (m_MM_compile_b189 n rec Np) (q9.2.1, q10)) fun q11 =>
      some q11.2.2
    else
    o_bd (o_lp n (m_MM_compile_b189 n rec Np) (q9.2.1, q9.2.2.2)) fun q12 =>
    some q12.2.2
  else
  if w6 = (6:Int32) then
    o_bd (o_lp n (m_MM_compile_b217 n rec x1 Np) ((0:Int32), No)) fun q14 =>
    o_gd (o_in x1 16000) <|
    if 0 ≤ ((NP_nodeC Np) x1.toNatClampNeg) then
      o_gd (o_in x1 16000) <|
      o_nm ((NP_nodeB Np) x1.toNatClampNeg) fun x3_304 =>
      o_bd (o_lp n (m_MM_compile_b305 n rec x1 Np) ((-1:Int32), x3_304, q14.2.2)) fun q17 =>
      o_bd (o_lp n (m_MM_compile_b348 n rec Np) (q17.2.1, q17.2.2.2)) fun q18 =>
      some q18.2.2
    else
      o_bd (m_MM_step (4:Int32) ((NO_steps q14.2.2) + (1:Int32)) (0:Int32) q14.2.2) fun q19 =>
      o_gd (o_in x1 16000) <|
      o_bd (rec ((NP_nodeA Np) x1.toNatClampNeg) Np q19.2) fun q20 =>
      o_bd (m_MM_step (5:Int32) q19.1 (0:Int32) q20) fun q21 =>
      o_gd (o_in q19.1 25000) <|
      some (NO_mk (NO_op q21.2) (NO_opA q21.2) (upd (NO_opB q21.2) q19.1.toNatClampNeg (NO_steps q21.2)) (NO_steps q21.2))
  else
  some No
def m_MM_compile (n : Nat) : Nat → Int32 → SNP → SNO → Option (SNO)
  | 0, _, _, _ => none
  | d + 1, v0, v1, v2 => m_MM_compile_F n (m_MM_compile n d) v0 v1 v2
def m_MM_isPattern (n : Nat) (x2 : Int32) (a1 : SMT) (Np : SNP) (No : SNO) : Option (Int32 × SNP × SNO) :=
  o_gd (o_in x2 1000) <|
  o_gd (o_in x2 1000) <|
  o_bd (m_MM_ways n 33 (0:Int32) a1 (NP_mk (NP_nodeKind Np) (NP_nodeA Np) (NP_nodeB Np) (NP_nodeC Np) (NP_nodeNext Np) (NP_low Np) (NP_high Np) (NP_setFrom Np) (NP_setTo Np) (NP_setNot Np) (0:Int32) (0:Int32) (0:Int32) ((MT_from a1) x2.toNatClampNeg) (((MT_from a1) x2.toNatClampNeg) + ((MT_many a1) x2.toNatClampNeg)) (0:Int32))) fun q1 =>
  if (NP_broken q1.2) = 0 then
    if (NP_pat q1.2) < (NP_patEnd q1.2) then
      some ((0:Int32), q1.2, No)
    else
      o_bd (m_MM_size n 110 q1.1 q1.2) fun q2 =>
      if (lg_cmp q2 (400:Int64)) ≤ 0 then
        o_bd (m_MM_compile n 110 q1.1 q1.2 (NO_mk (NO_op No) (NO_opA No) (NO_opB No) (0:Int32))) fun q3 =>
        o_bd (m_MM_step (9:Int32) (0:Int32) (0:Int32) q3) fun q4 =>
        some ((1:Int32), q1.2, q4.2)
      else
        some ((0:Int32), q1.2, No)
  else
    some ((0:Int32), q1.2, No)
def m_MM_has_1_b10 (n : Nat) (x1 : Int32) (x2 : Int32) (Np : SNP) (z : Int32 × Int32) : Option (Nat × Int32 × Int32) :=
  o_gd (o_in x1 8000) <|
  if ((NP_setTo Np) x1.toNatClampNeg) ≤ z.2 then
    some (1, z.1, z.2)
  else
    if z.1 = 0 then
      o_gd (o_in z.2 48000) <|
      if x2 < ((NP_low Np) z.2.toNatClampNeg) then
        o_nm (z.2 + (1:Int32)) fun x4_53 =>
        some (0, (0:Int32), x4_53)
      else
        o_gd (o_in z.2 48000) <|
        if ((NP_high Np) z.2.toNatClampNeg) < x2 then
          o_nm (z.2 + (1:Int32)) fun x4_53 =>
          some (0, (0:Int32), x4_53)
        else
          o_nm (z.2 + (1:Int32)) fun x4_53 =>
          some (0, (1:Int32), x4_53)
    else
      some (1, z.1, z.2)
def m_MM_has_1_j59 (n : Nat) (x1 : Int32) (x3 : Int32) (Np : SNP) : Option (Int32) :=
  o_gd (o_in x1 8000) <|
  if x3 = ((NP_setNot Np) x1.toNatClampNeg) then
    some (0:Int32)
  else
    some (1:Int32)
def m_MM_has_1 (n : Nat) (x1 : Int32) (x2 : Int32) (Np : SNP) : Option (Int32) :=
  o_gd (o_in x1 8000) <|
  o_nm ((NP_setFrom Np) x1.toNatClampNeg) fun x4_8 =>
  o_bd (o_lp n (m_MM_has_1_b10 n x1 x2 Np) ((0:Int32), x4_8)) fun q1 =>
  m_MM_has_1_j59 n x1 q1.2.1 Np
def m_MM_turn_b12 (n : Nat) (z : Int32 × SNX) : Option (Nat × Int32 × SNX) :=
  if (25000:Int32) ≤ z.1 then
    some (1, z.1, z.2)
  else
    o_gd (o_in z.1 25000) <|
    o_nm (z.1 + (1:Int32)) fun x1_26 =>
    some (0, x1_26, (NX_mk (upd (NX_mark z.2) z.1.toNatClampNeg (0:Int32)) (NX_now z.2) (NX_then z.2) (NX_todo z.2) (NX_round z.2) (NX_many1 z.2)))
def m_MM_turn (n : Nat) (Nx : SNX) : Option (SNX) :=
  if (NX_round Nx) = (2147483647:Int32) then
    o_bd (o_lp n (m_MM_turn_b12 n) ((0:Int32), Nx)) fun q1 =>
    some (NX_mk (NX_mark q1.2.2) (NX_now q1.2.2) (NX_then q1.2.2) (NX_todo q1.2.2) ((0:Int32) + (1:Int32)) (NX_many1 q1.2.2))
  else
    some (NX_mk (NX_mark Nx) (NX_now Nx) (NX_then Nx) (NX_todo Nx) ((NX_round Nx) + (1:Int32)) (NX_many1 Nx))
def m_MM_thread_now_b14 (n : Nat) (x3 : Int32) (x4 : Int32) (No : SNO) (z : Int32 × SNX) : Option (Nat × Int32 × SNX) :=
  if z.1 ≤ 0 then
    some (2, z.1, z.2)
  else
    o_nm (z.1 + (-1:Int32)) fun x5_23 =>
    o_gd (o_in x5_23 50000) <|
    o_nm ((NX_todo z.2) x5_23.toNatClampNeg) fun x6_29 =>
    o_gd (o_in x6_29 25000) <|
    if ((NX_mark z.2) x6_29.toNatClampNeg) = (NX_round z.2) then
      some (0, x5_23, z.2)
    else
      o_gd (o_in x6_29 25000) <|
      o_gd (o_in x6_29 25000) <|
      if ((NO_op No) x6_29.toNatClampNeg) = (9:Int32) then
        some (1, x5_23, (NX_mk (upd (NX_mark z.2) x6_29.toNatClampNeg (NX_round z.2)) (NX_now z.2) (NX_then z.2) (NX_todo z.2) (NX_round z.2) (NX_many1 z.2)))
      else
        o_gd (o_in x6_29 25000) <|
        if ((NO_op No) x6_29.toNatClampNeg) = (1:Int32) then
          o_gd (o_in (NX_many1 z.2) 25000) <|
          some (0, x5_23, (NX_mk (upd (NX_mark z.2) x6_29.toNatClampNeg (NX_round z.2)) (upd (NX_now z.2) (NX_many1 z.2).toNatClampNeg x6_29) (NX_then z.2) (NX_todo z.2) (NX_round z.2) ((NX_many1 z.2) + (1:Int32))))
        else
          o_gd (o_in x6_29 25000) <|
          if ((NO_op No) x6_29.toNatClampNeg) = (2:Int32) then
            if x3 = 0 then
              some (0, x5_23, (NX_mk (upd (NX_mark z.2) x6_29.toNatClampNeg (NX_round z.2)) (NX_now z.2) (NX_then z.2) (NX_todo z.2) (NX_round z.2) (NX_many1 z.2)))
            else
              o_nm (x5_23 + (1:Int32)) fun x5_123 =>
              o_gd (o_in x5_23 50000) <|
              some (0, x5_123, (NX_mk (upd (NX_mark z.2) x6_29.toNatClampNeg (NX_round z.2)) (NX_now z.2) (NX_then z.2) (upd (NX_todo z.2) x5_23.toNatClampNeg (x6_29 + (1:Int32))) (NX_round z.2) (NX_many1 z.2)))
          else
            o_gd (o_in x6_29 25000) <|
            if ((NO_op No) x6_29.toNatClampNeg) = (3:Int32) then
              if x4 = 0 then
                some (0, x5_23, (NX_mk (upd (NX_mark z.2) x6_29.toNatClampNeg (NX_round z.2)) (NX_now z.2) (NX_then z.2) (NX_todo z.2) (NX_round z.2) (NX_many1 z.2)))
              else
                o_nm (x5_23 + (1:Int32)) fun x5_156 =>
                o_gd (o_in x5_23 50000) <|
                some (0, x5_156, (NX_mk (upd (NX_mark z.2) x6_29.toNatClampNeg (NX_round z.2)) (NX_now z.2) (NX_then z.2) (upd (NX_todo z.2) x5_23.toNatClampNeg (x6_29 + (1:Int32))) (NX_round z.2) (NX_many1 z.2)))
            else
              o_gd (o_in x6_29 25000) <|
              if ((NO_op No) x6_29.toNatClampNeg) = (5:Int32) then
                o_nm (x5_23 + (1:Int32)) fun x5_184 =>
                o_gd (o_in x6_29 25000) <|
                o_gd (o_in x5_23 50000) <|
                some (0, x5_184, (NX_mk (upd (NX_mark z.2) x6_29.toNatClampNeg (NX_round z.2)) (NX_now z.2) (NX_then z.2) (upd (NX_todo z.2) x5_23.toNatClampNeg ((NO_opA No) x6_29.toNatClampNeg)) (NX_round z.2) (NX_many1 z.2)))
              else
                o_nm (x5_23 + (1:Int32)) fun x5_204 =>
                o_gd (o_in x6_29 25000) <|
                o_gd (o_in x5_23 50000) <|
                o_nm (x5_204 + (1:Int32)) fun x5_221 =>
                o_gd (o_in x6_29 25000) <|
                o_gd (o_in x5_204 50000) <|
                some (0, x5_221, (NX_mk (upd (NX_mark z.2) x6_29.toNatClampNeg (NX_round z.2)) (NX_now z.2) (NX_then z.2) (upd (upd (NX_todo z.2) x5_23.toNatClampNeg ((NO_opA No) x6_29.toNatClampNeg)) x5_204.toNatClampNeg ((NO_opB No) x6_29.toNatClampNeg)) (NX_round z.2) (NX_many1 z.2)))
def m_MM_thread_now (n : Nat) (x2 : Int32) (x3 : Int32) (x4 : Int32) (No : SNO) (Nx : SNX) : Option (Int32 × SNX) :=
  o_nm ((0:Int32) + (1:Int32)) fun x5_9 =>
  o_gd (o_in (0:Int32) 50000) <|
  o_bd (o_lp n (m_MM_thread_now_b14 n x3 x4 No) (x5_9, (NX_mk (NX_mark Nx) (NX_now Nx) (NX_then Nx) (upd (NX_todo Nx) (0:Int32).toNatClampNeg x2) (NX_round Nx) (NX_many1 Nx)))) fun q1 =>
  if q1.1 = 1 then
    some ((1:Int32), q1.2.2)
  else
  some ((0:Int32), q1.2.2)
def m_MM_thread_then_b14 (n : Nat) (x3 : Int32) (x4 : Int32) (No : SNO) (z : Int32 × SNX) : Option (Nat × Int32 × SNX) :=
  if z.1 ≤ 0 then
    some (2, z.1, z.2)
  else
    o_nm (z.1 + (-1:Int32)) fun x5_23 =>
    o_gd (o_in x5_23 50000) <|
    o_nm ((NX_todo z.2) x5_23.toNatClampNeg) fun x6_29 =>
    o_gd (o_in x6_29 25000) <|
    if ((NX_mark z.2) x6_29.toNatClampNeg) = (NX_round z.2) then
      some (0, x5_23, z.2)
    else
      o_gd (o_in x6_29 25000) <|
      o_gd (o_in x6_29 25000) <|
      if ((NO_op No) x6_29.toNatClampNeg) = (9:Int32) then
        some (1, x5_23, (NX_mk (upd (NX_mark z.2) x6_29.toNatClampNeg (NX_round z.2)) (NX_now z.2) (NX_then z.2) (NX_todo z.2) (NX_round z.2) (NX_many1 z.2)))
      else
        o_gd (o_in x6_29 25000) <|
        if ((NO_op No) x6_29.toNatClampNeg) = (1:Int32) then
          o_gd (o_in (NX_many1 z.2) 25000) <|
          some (0, x5_23, (NX_mk (upd (NX_mark z.2) x6_29.toNatClampNeg (NX_round z.2)) (NX_now z.2) (upd (NX_then z.2) (NX_many1 z.2).toNatClampNeg x6_29) (NX_todo z.2) (NX_round z.2) ((NX_many1 z.2) + (1:Int32))))
        else
          o_gd (o_in x6_29 25000) <|
          if ((NO_op No) x6_29.toNatClampNeg) = (2:Int32) then
            if x3 = 0 then
              some (0, x5_23, (NX_mk (upd (NX_mark z.2) x6_29.toNatClampNeg (NX_round z.2)) (NX_now z.2) (NX_then z.2) (NX_todo z.2) (NX_round z.2) (NX_many1 z.2)))
            else
              o_nm (x5_23 + (1:Int32)) fun x5_123 =>
              o_gd (o_in x5_23 50000) <|
              some (0, x5_123, (NX_mk (upd (NX_mark z.2) x6_29.toNatClampNeg (NX_round z.2)) (NX_now z.2) (NX_then z.2) (upd (NX_todo z.2) x5_23.toNatClampNeg (x6_29 + (1:Int32))) (NX_round z.2) (NX_many1 z.2)))
          else
            o_gd (o_in x6_29 25000) <|
            if ((NO_op No) x6_29.toNatClampNeg) = (3:Int32) then
              if x4 = 0 then
                some (0, x5_23, (NX_mk (upd (NX_mark z.2) x6_29.toNatClampNeg (NX_round z.2)) (NX_now z.2) (NX_then z.2) (NX_todo z.2) (NX_round z.2) (NX_many1 z.2)))
              else
                o_nm (x5_23 + (1:Int32)) fun x5_156 =>
                o_gd (o_in x5_23 50000) <|
                some (0, x5_156, (NX_mk (upd (NX_mark z.2) x6_29.toNatClampNeg (NX_round z.2)) (NX_now z.2) (NX_then z.2) (upd (NX_todo z.2) x5_23.toNatClampNeg (x6_29 + (1:Int32))) (NX_round z.2) (NX_many1 z.2)))
            else
              o_gd (o_in x6_29 25000) <|
              if ((NO_op No) x6_29.toNatClampNeg) = (5:Int32) then
                o_nm (x5_23 + (1:Int32)) fun x5_184 =>
                o_gd (o_in x6_29 25000) <|
                o_gd (o_in x5_23 50000) <|
                some (0, x5_184, (NX_mk (upd (NX_mark z.2) x6_29.toNatClampNeg (NX_round z.2)) (NX_now z.2) (NX_then z.2) (upd (NX_todo z.2) x5_23.toNatClampNeg ((NO_opA No) x6_29.toNatClampNeg)) (NX_round z.2) (NX_many1 z.2)))
              else
                o_nm (x5_23 + (1:Int32)) fun x5_204 =>
                o_gd (o_in x6_29 25000) <|
                o_gd (o_in x5_23 50000) <|
                o_nm (x5_204 + (1:Int32)) fun x5_221 =>
                o_gd (o_in x6_29 25000) <|
                o_gd (o_in x5_204 50000) <|
                some (0, x5_221, (NX_mk (upd (NX_mark z.2) x6_29.toNatClampNeg (NX_round z.2)) (NX_now z.2) (NX_then z.2) (upd (upd (NX_todo z.2) x5_23.toNatClampNeg ((NO_opA No) x6_29.toNatClampNeg)) x5_204.toNatClampNeg ((NO_opB No) x6_29.toNatClampNeg)) (NX_round z.2) (NX_many1 z.2)))
def m_MM_thread_then (n : Nat) (x2 : Int32) (x3 : Int32) (x4 : Int32) (No : SNO) (Nx : SNX) : Option (Int32 × SNX) :=
  o_nm ((0:Int32) + (1:Int32)) fun x5_9 =>
  o_gd (o_in (0:Int32) 50000) <|
  o_bd (o_lp n (m_MM_thread_then_b14 n x3 x4 No) (x5_9, (NX_mk (NX_mark Nx) (NX_now Nx) (NX_then Nx) (upd (NX_todo Nx) (0:Int32).toNatClampNeg x2) (NX_round Nx) (NX_many1 Nx)))) fun q1 =>
  if q1.1 = 1 then
    some ((1:Int32), q1.2.2)
  else
  some ((0:Int32), q1.2.2)
def m_MM_matches_j166 (n : Nat) (x2 : Int32) (x3 : Int32) (x4 : Int32) (x5 : Int32) (x6 : Int32) (x7 : Int32) (y2 : Int32) (y3 : Int32) (y4 : Int32) (a1 : SMT) (Np : SNP) (No : SNO) (Nx : SNX) : Option (Nat × Int32 × SNX) :=
  o_bd (m_MM_thread_then n y2 y3 y4 No Nx) fun q4 =>
  if q4.1 = 0 then
    o_nm (x7 + (1:Int32)) fun x7_174 =>
    some (0, x7_174, q4.2)
  else
    some (1, x7, q4.2)
def m_MM_matches_b110 (n : Nat) (x2 : Int32) (x3 : Int32) (x4 : Int32) (x5 : Int32) (x6 : Int32) (a1 : SMT) (Np : SNP) (No : SNO) (z : Int32 × SNX) : Option (Nat × Int32 × SNX) :=
  if x4 ≤ z.1 then
    some (2, z.1, z.2)
  else
    o_gd (o_in z.1 25000) <|
    o_gd (o_in ((NX_now z.2) z.1.toNatClampNeg) 25000) <|
    o_bd (m_MM_has_1 n ((NO_opA No) ((NX_now z.2) z.1.toNatClampNeg).toNatClampNeg) x6 Np) fun q3 =>
    if q3 = 0 then
      o_nm (z.1 + (1:Int32)) fun x7_174 =>
      some (0, x7_174, z.2)
    else
      o_gd (o_in z.1 25000) <|
      if (x5 + (1:Int32)) = x3 then
        m_MM_matches_j166 n x2 x3 x4 x5 x6 z.1 (((NX_now z.2) z.1.toNatClampNeg) + (1:Int32)) (0:Int32) (1:Int32) a1 Np No z.2
      else
        m_MM_matches_j166 n x2 x3 x4 x5 x6 z.1 (((NX_now z.2) z.1.toNatClampNeg) + (1:Int32)) (0:Int32) (0:Int32) a1 Np No z.2
def m_MM_matches_b183 (n : Nat) (x2 : Int32) (x3 : Int32) (x5 : Int32) (a1 : SMT) (Np : SNP) (No : SNO) (z : Int32 × SNX) : Option (Nat × Int32 × SNX) :=
  if (NX_many1 z.2) ≤ z.1 then
    some (1, z.1, z.2)
  else
    o_gd (o_in z.1 25000) <|
    o_gd (o_in z.1 25000) <|
    o_nm (z.1 + (1:Int32)) fun x7_206 =>
    some (0, x7_206, (NX_mk (NX_mark z.2) (upd (NX_now z.2) z.1.toNatClampNeg ((NX_then z.2) z.1.toNatClampNeg)) (NX_then z.2) (NX_todo z.2) (NX_round z.2) (NX_many1 z.2)))
def m_MM_matches_j60 (n : Nat) (x2 : Int32) (x3 : Int32) (x5 : Int32) (y2 : Int32) (y3 : Int32) (y4 : Int32) (a1 : SMT) (Np : SNP) (No : SNO) (Nx : SNX) : Option (Nat × Int32 × SNX) :=
  o_bd (m_MM_thread_now n y2 y3 y4 No Nx) fun q1 =>
  if q1.1 = 0 then
    o_nm (NX_many1 q1.2) fun x4_72 =>
    if x5 = x3 then
      some (2, x5, q1.2)
    else
      o_gd (o_in x2 1000) <|
      o_gd (o_in (((MT_from a1) x2.toNatClampNeg) + x5) 4000) <|
      o_nm ((MT_characters a1) (((MT_from a1) x2.toNatClampNeg) + x5).toNatClampNeg) fun x6_96 =>
      o_bd (m_MM_turn n q1.2) fun q2 =>
      o_bd (o_lp n (m_MM_matches_b110 n x2 x3 x4_72 x5 x6_96 a1 Np No) ((0:Int32), (NX_mk (NX_mark q2) (NX_now q2) (NX_then q2) (NX_todo q2) (NX_round q2) (0:Int32)))) fun q5 =>
      if q5.1 = 1 then
        some (3, x5, q5.2.2)
      else
      o_bd (o_lp n (m_MM_matches_b183 n x2 x3 x5 a1 Np No) ((0:Int32), q5.2.2)) fun q6 =>
      o_nm (x5 + (1:Int32)) fun x5_212 =>
      some (0, x5_212, q6.2.2)
  else
    some (1, x5, q1.2)
def m_MM_matches_j49 (n : Nat) (x2 : Int32) (x3 : Int32) (x5 : Int32) (y2 : Int32) (y3 : Int32) (a1 : SMT) (Np : SNP) (No : SNO) (Nx : SNX) : Option (Nat × Int32 × SNX) :=
  if x5 = x3 then
    m_MM_matches_j60 n x2 x3 x5 y2 y3 (1:Int32) a1 Np No Nx
  else
    m_MM_matches_j60 n x2 x3 x5 y2 y3 (0:Int32) a1 Np No Nx
def m_MM_matches_j33 (n : Nat) (x2 : Int32) (x3 : Int32) (x5 : Int32) (a1 : SMT) (Np : SNP) (No : SNO) (Nx : SNX) : Option (Nat × Int32 × SNX) :=
  if x5 = 0 then
    m_MM_matches_j49 n x2 x3 x5 (0:Int32) (1:Int32) a1 Np No Nx
  else
    m_MM_matches_j49 n x2 x3 x5 (0:Int32) (0:Int32) a1 Np No Nx
def m_MM_matches_b13 (n : Nat) (x2 : Int32) (x3 : Int32) (a1 : SMT) (Np : SNP) (No : SNO) (z : Int32 × SNX) : Option (Nat × Int32 × SNX) :=
  if x3 < z.1 then
    some (4, z.1, z.2)
  else
    if z.1 = 0 then
      o_bd (m_MM_turn n z.2) fun q7 =>
      m_MM_matches_j33 n x2 x3 z.1 a1 Np No (NX_mk (NX_mark q7) (NX_now q7) (NX_then q7) (NX_todo q7) (NX_round q7) (0:Int32))
    else
      m_MM_matches_j33 n x2 x3 z.1 a1 Np No z.2
def m_MM_matches (n : Nat) (x2 : Int32) (a1 : SMT) (Np : SNP) (No : SNO) (Nx : SNX) : Option (Int32 × SNX) :=
  o_gd (o_in x2 1000) <|
  o_nm ((MT_many a1) x2.toNatClampNeg) fun x3_6 =>
  o_bd (o_lp n (m_MM_matches_b13 n x2 x3_6 a1 Np No) ((0:Int32), Nx)) fun q8 =>
  if q8.1 = 1 then
    some ((1:Int32), q8.2.2)
  else
  if q8.1 = 2 then
    some ((0:Int32), q8.2.2)
  else
  if q8.1 = 3 then
    some ((1:Int32), q8.2.2)
  else
  some ((0:Int32), q8.2.2)
def m_MM_fault (x1 : Int32) (x2 : Int32) (Nf : SNF) : Option (SNF) :=
  if (NF_faultKind Nf) = 0 then
    some (NF_mk (NF_checked Nf) x1 x2 (NF_latestFault Nf))
  else
    if (NF_faultValue Nf) < x2 then
      some Nf
    else
      if x2 = (NF_faultValue Nf) then
        if x1 < (NF_faultKind Nf) then
          some (NF_mk (NF_checked Nf) x1 x2 (NF_latestFault Nf))
        else
          some Nf
      else
        some (NF_mk (NF_checked Nf) x1 x2 (NF_latestFault Nf))
def m_MT_is_b17 (n : Nat) (x1 : Int32) (x2 : Nat) (a0 : SMT) (z : Int32) : Option (Nat × Int32) :=
  o_bd (m_JS_length x2) fun q2 =>
  if q2 ≤ z then
    some (2, z)
  else
    o_gd (o_in x1 1000) <|
    o_gd (o_in (((MT_from a0) x1.toNatClampNeg) + z) 4000) <|
    o_bd (m_JS_charAt x2 z) fun q3 =>
    if ((MT_characters a0) (((MT_from a0) x1.toNatClampNeg) + z).toNatClampNeg) = q3 then
      o_nm (z + (1:Int32)) fun x3_48 =>
      some (0, x3_48)
    else
      some (1, z)
def m_MT_is (n : Nat) (x1 : Int32) (x2 : Nat) (a0 : SMT) : Option (Int32) :=
  o_gd (o_in x1 1000) <|
  o_bd (m_JS_length x2) fun q1 =>
  if ((MT_many a0) x1.toNatClampNeg) = q1 then
    o_bd (o_lp n (m_MT_is_b17 n x1 x2 a0) ((0:Int32))) fun q4 =>
    if q4.1 = 1 then
      some (0:Int32)
    else
    some (1:Int32)
  else
    some (0:Int32)
def m_MT_isWhole (x1 : Int32) (a0 : SMT) : Option (Int32) :=
  o_gd (o_in x1 1000) <|
  if ((MT_kind a0) x1.toNatClampNeg) = (3:Int32) then
    o_gd (o_in x1 1000) <|
    if ((MT_power a0) x1.toNatClampNeg) < 0 then
      some (0:Int32)
    else
      some (1:Int32)
  else
    some (0:Int32)
def m_MM_intOf_j95 (n : Nat) (x1 : Int32) (x3 : Int32) (y0 : Int32) (y1 : Int32) (M0 : SMT) : Option (Nat × Int32 × Int32) :=
  o_nm (y0 + y1) fun x2_96 =>
  o_nm (x3 + (1:Int32)) fun x3_97 =>
  some (0, x2_96, x3_97)
def m_MM_intOf_b32 (n : Nat) (x1 : Int32) (M0 : SMT) (z : Int32 × Int32) : Option (Nat × Int32 × Int32) :=
  o_gd (o_in x1 1000) <|
  o_gd (o_in x1 1000) <|
  if (((MT_many M0) x1.toNatClampNeg) + ((MT_power M0) x1.toNatClampNeg)) ≤ z.2 then
    some (1, z.1, z.2)
  else
    o_gd (o_in x1 1000) <|
    if ((MT_many M0) x1.toNatClampNeg) ≤ z.2 then
      m_MM_intOf_j95 n x1 z.2 ((10:Int32) * z.1) (0:Int32) M0
    else
      o_gd (o_in x1 1000) <|
      o_gd (o_in (((MT_from M0) x1.toNatClampNeg) + z.2) 8192) <|
      m_MM_intOf_j95 n x1 z.2 ((10:Int32) * z.1) ((MT_digits M0) (((MT_from M0) x1.toNatClampNeg) + z.2).toNatClampNeg) M0
def m_MM_intOf (n : Nat) (x1 : Int32) (M0 : SMT) : Option (Int32) :=
  o_gd (o_in x1 1000) <|
  o_gd (o_in x1 1000) <|
  if (((MT_many M0) x1.toNatClampNeg) + ((MT_power M0) x1.toNatClampNeg)) ≤ (7:Int32) then
    o_bd (o_lp n (m_MM_intOf_b32 n x1 M0) ((0:Int32), (0:Int32))) fun q1 =>
    some q1.2.1
  else
    some (2000000:Int32)
def m_MM_isName (x0 : Int32) (x1 : Int32) : Option (Int32) :=
  o_bd (m_MM_in x0 (97:Int32) (122:Int32)) fun q1 =>
  if q1 = 0 then
    o_bd (m_MM_in x0 (65:Int32) (90:Int32)) fun q2 =>
    if q2 = 0 then
      if x0 = (95:Int32) then
        some (1:Int32)
      else
        if x1 = 0 then
          o_bd (m_MM_in x0 (48:Int32) (57:Int32)) fun q3 =>
          if q3 = 0 then
            if x0 = (45:Int32) then
              some (1:Int32)
            else
              if x0 = (46:Int32) then
                some (1:Int32)
              else
                some (0:Int32)
          else
            some (1:Int32)
        else
          some (0:Int32)
    else
      some (1:Int32)
  else
    some (1:Int32)
def m_MM_anchor_j82 (n : Nat) (x1 : Int32) (x2 : Int32) (x4 : Int32) (y0 : Int32) (y1 : Int32) (M0 : SMT) (Nf : SNF) (Na : SNA) : Option (Nat × Int32 × Int32) :=
  o_bd (m_MM_isName y0 y1) fun q1 =>
  o_nm (x4 + (1:Int32)) fun x4_86 =>
  some (0, q1, x4_86)
def m_MM_anchor_b34 (n : Nat) (x1 : Int32) (x2 : Int32) (M0 : SMT) (Nf : SNF) (Na : SNA) (z : Int32 × Int32) : Option (Nat × Int32 × Int32) :=
  if z.1 = 0 then
    some (1, z.1, z.2)
  else
    o_gd (o_in x1 1000) <|
    if ((MT_many M0) x1.toNatClampNeg) ≤ z.2 then
      some (1, z.1, z.2)
    else
      o_gd (o_in x1 1000) <|
      o_gd (o_in (((MT_from M0) x1.toNatClampNeg) + z.2) 4000) <|
      if z.2 = 0 then
        m_MM_anchor_j82 n x1 x2 z.2 ((MT_characters M0) (((MT_from M0) x1.toNatClampNeg) + z.2).toNatClampNeg) (1:Int32) M0 Nf Na
      else
        m_MM_anchor_j82 n x1 x2 z.2 ((MT_characters M0) (((MT_from M0) x1.toNatClampNeg) + z.2).toNatClampNeg) (0:Int32) M0 Nf Na
def m_MM_anchor_b106 (n : Nat) (x1 : Int32) (x2 : Int32) (M0 : SMT) (Nf : SNF) (Na : SNA) (z : Int32) : Option (Nat × Int32) :=
  if (NA_anchors Na) ≤ z then
    some (2, z)
  else
    o_gd (o_in z 1000) <|
    o_bd (m_MT_same n x1 ((NA_anchorValue Na) z.toNatClampNeg) M0 M0) fun q3 =>
    if q3 = 0 then
      o_nm (z + (1:Int32)) fun x4_144 =>
      some (0, x4_144)
    else
      some (1, z)
def m_MM_anchor_j92 (n : Nat) (x1 : Int32) (x2 : Int32) (x3 : Int32) (M0 : SMT) (Nf : SNF) (Na : SNA) : Option (SNF × SNA) :=
  if x3 = 0 then
    o_bd (m_MM_fault (1:Int32) x1 Nf) fun q6 =>
    some (q6, Na)
  else
    o_bd (o_lp n (m_MM_anchor_b106 n x1 x2 M0 Nf Na) ((0:Int32))) fun q4 =>
    if q4.1 = 1 then
      o_bd (m_MM_fault (3:Int32) x1 Nf) fun q5 =>
      some (q5, Na)
    else
    o_gd (o_in (NA_anchors Na) 1000) <|
    o_gd (o_in (NA_anchors Na) 1000) <|
    some (Nf, (NA_mk ((NA_anchors Na) + (1:Int32)) (NA_key Na) (NA_target Na) (upd (NA_anchorValue Na) (NA_anchors Na).toNatClampNeg x1) (upd (NA_anchorSchema Na) (NA_anchors Na).toNatClampNeg x2) (NA_isSchema Na)))
def m_MM_anchor (n : Nat) (x1 : Int32) (x2 : Int32) (M0 : SMT) (Nf : SNF) (Na : SNA) : Option (SNF × SNA) :=
  o_gd (o_in x1 1000) <|
  if ((MT_kind M0) x1.toNatClampNeg) = (4:Int32) then
    o_gd (o_in x1 1000) <|
    if ((MT_many M0) x1.toNatClampNeg) ≤ 0 then
      o_bd (o_lp n (m_MM_anchor_b34 n x1 x2 M0 Nf Na) ((0:Int32), (0:Int32))) fun q7 =>
      m_MM_anchor_j92 n x1 x2 q7.2.1 M0 Nf Na
    else
      o_bd (o_lp n (m_MM_anchor_b34 n x1 x2 M0 Nf Na) ((1:Int32), (0:Int32))) fun q8 =>
      m_MM_anchor_j92 n x1 x2 q8.2.1 M0 Nf Na
  else
    o_bd (o_lp n (m_MM_anchor_b34 n x1 x2 M0 Nf Na) ((0:Int32), (0:Int32))) fun q2 =>
    m_MM_anchor_j92 n x1 x2 q2.2.1 M0 Nf Na
def m_MM_typeOf_b2 (n : Nat) (x1 : Int32) (M0 : SMT) (z : Int32) : Option (Nat × Int32) :=
  if (7:Int32) ≤ z then
    some (2, z)
  else
    o_gd (o_in x1 1000) <|
    if ((MT_kind M0) x1.toNatClampNeg) = (4:Int32) then
      o_gd (o_in z 7) <|
      o_bd (m_MT_is n x1 (mk_types z.toNatClampNeg) M0) fun q1 =>
      if q1 = 0 then
        o_nm (z + (1:Int32)) fun x2_43 =>
        some (0, x2_43)
      else
        some (1, z)
    else
      o_nm (z + (1:Int32)) fun x2_43 =>
      some (0, x2_43)
def m_MM_typeOf (n : Nat) (x1 : Int32) (M0 : SMT) : Option (Int32) :=
  o_bd (o_lp n (m_MM_typeOf_b2 n x1 M0) ((0:Int32))) fun q2 =>
  if q2.1 = 1 then
    some q2.2
  else
  some (-1:Int32)
def m_MM_type_b86 (n : Nat) (x1 : Int32) (x2 : Int32) (M0 : SMT) (Nf : SNF) (z : Int32) : Option (Nat × Int32) :=
  if z = x2 then
    some (2, z)
  else
    o_bd (m_MM_typeOf n z M0) fun q2 =>
    o_bd (m_MM_typeOf n x2 M0) fun q3 =>
    if q2 = q3 then
      some (1, z)
    else
      o_gd (o_in z 1000) <|
      o_nm ((MT_next M0) z.toNatClampNeg) fun x3_120 =>
      some (0, x3_120)
def m_MM_type_b57 (n : Nat) (x1 : Int32) (M0 : SMT) (Nf : SNF) (z : Int32) : Option (Nat × Int32) :=
  if z < 0 then
    some (3, z)
  else
    o_bd (m_MM_typeOf n z M0) fun q1 =>
    if 0 ≤ q1 then
      o_gd (o_in x1 1000) <|
      o_nm ((MT_first M0) x1.toNatClampNeg) fun x3_85 =>
      o_bd (o_lp n (m_MM_type_b86 n x1 z M0 Nf) (x3_85)) fun q4 =>
      if q4.1 = 1 then
        some (2, z)
      else
      o_gd (o_in z 1000) <|
      o_nm ((MT_next M0) z.toNatClampNeg) fun x2_133 =>
      some (0, x2_133)
    else
      some (1, z)
def m_MM_type (n : Nat) (x1 : Int32) (M0 : SMT) (Nf : SNF) : Option (SNF) :=
  o_gd (o_in x1 1000) <|
  if ((MT_kind M0) x1.toNatClampNeg) = (5:Int32) then
    o_gd (o_in x1 1000) <|
    if ((MT_many M0) x1.toNatClampNeg) = 0 then
      o_bd (m_MM_fault (1:Int32) x1 Nf) fun q8 =>
      some q8
    else
      o_gd (o_in x1 1000) <|
      o_nm ((MT_first M0) x1.toNatClampNeg) fun x2_56 =>
      o_bd (o_lp n (m_MM_type_b57 n x1 M0 Nf) (x2_56)) fun q5 =>
      if q5.1 = 1 then
        o_bd (m_MM_fault (1:Int32) q5.2 Nf) fun q6 =>
        some q6
      else
      if q5.1 = 2 then
        o_bd (m_MM_fault (1:Int32) q5.2 Nf) fun q7 =>
        some q7
      else
      some Nf
  else
    o_bd (m_MM_typeOf n x1 M0) fun q9 =>
    if 0 ≤ q9 then
      some Nf
    else
      o_bd (m_MM_fault (1:Int32) x1 Nf) fun q10 =>
      some q10
def m_MM_strings_b64 (n : Nat) (x1 : Int32) (x2 : Int32) (M0 : SMT) (Nf : SNF) (z : Int32) : Option (Nat × Int32) :=
  if z = x2 then
    some (2, z)
  else
    o_bd (m_MT_same n x2 z M0 M0) fun q1 =>
    if q1 = 0 then
      o_gd (o_in z 1000) <|
      o_nm ((MT_next M0) z.toNatClampNeg) fun x3_101 =>
      some (0, x3_101)
    else
      some (1, z)
def m_MM_strings_b30 (n : Nat) (x1 : Int32) (M0 : SMT) (Nf : SNF) (z : Int32) : Option (Nat × Int32) :=
  if z < 0 then
    some (3, z)
  else
    o_gd (o_in z 1000) <|
    if ((MT_kind M0) z.toNatClampNeg) = (4:Int32) then
      o_gd (o_in x1 1000) <|
      o_nm ((MT_first M0) x1.toNatClampNeg) fun x3_63 =>
      o_bd (o_lp n (m_MM_strings_b64 n x1 z M0 Nf) (x3_63)) fun q2 =>
      if q2.1 = 1 then
        some (2, z)
      else
      o_gd (o_in z 1000) <|
      o_nm ((MT_next M0) z.toNatClampNeg) fun x2_114 =>
      some (0, x2_114)
    else
      some (1, z)
def m_MM_strings (n : Nat) (x1 : Int32) (M0 : SMT) (Nf : SNF) : Option (SNF) :=
  o_gd (o_in x1 1000) <|
  if ((MT_kind M0) x1.toNatClampNeg) = (5:Int32) then
    o_gd (o_in x1 1000) <|
    o_nm ((MT_first M0) x1.toNatClampNeg) fun x2_29 =>
    o_bd (o_lp n (m_MM_strings_b30 n x1 M0 Nf) (x2_29)) fun q3 =>
    if q3.1 = 1 then
      o_bd (m_MM_fault (1:Int32) q3.2 Nf) fun q4 =>
      some q4
    else
    if q3.1 = 2 then
      o_bd (m_MM_fault (1:Int32) q3.2 Nf) fun q5 =>
      some q5
    else
    some Nf
  else
    o_bd (m_MM_fault (1:Int32) x1 Nf) fun q6 =>
    some q6
def m_MM_keyword_b477 (n : Nat) (rec : Int32 → SMT → SNP → SNO → SNF → SNA → Nat → Option (SNP × SNO × SNF × SNA × Nat)) (M0 : SMT) (Np : SNP) (No : SNO) (Na : SNA) (rt : Nat) (z : Int32 × SNF) : Option (Nat × Int32 × SNF) :=
  if z.1 < 0 then
    some (1, z.1, z.2)
  else
    o_bd (m_MM_strings n z.1 M0 z.2) fun q2 =>
    o_gd (o_in z.1 1000) <|
    o_nm ((MT_next M0) z.1.toNatClampNeg) fun x5_498 =>
    some (0, x5_498, q2)
def m_MM_keyword_j283 (n : Nat) (rec : Int32 → SMT → SNP → SNO → SNF → SNA → Nat → Option (SNP × SNO × SNF × SNA × Nat)) (x2 : Int32) (M0 : SMT) (Np : SNP) (No : SNO) (Nf : SNF) (Na : SNA) (rt : Nat) : Option (SNP × SNO × SNF × SNA × Nat) :=
  o_bd (m_MM_fault (1:Int32) x2 Nf) fun q16 =>
  some (Np, No, q16, Na, rt)
def m_MM_keyword_j234 (n : Nat) (rec : Int32 → SMT → SNP → SNO → SNF → SNA → Nat → Option (SNP × SNO × SNF × SNA × Nat)) (x2 : Int32) (M0 : SMT) (Np : SNP) (No : SNO) (Nf : SNF) (Na : SNA) (rt : Nat) : Option (SNP × SNO × SNF × SNA × Nat) :=
  o_bd (m_MM_fault (1:Int32) x2 Nf) fun q18 =>
  some (Np, No, q18, Na, rt)
def m_MM_keyword_j168 (n : Nat) (rec : Int32 → SMT → SNP → SNO → SNF → SNA → Nat → Option (SNP × SNO × SNF × SNA × Nat)) (x1 : Int32) (x5 : Int32) (M0 : SMT) (Np : SNP) (No : SNO) (Nf : SNF) (Na : SNA) (rt : Nat) : Option (Nat × Int32 × SNP × SNO × SNF × SNA × Nat) :=
  o_bd (rec x5 M0 Np No Nf Na rt) fun q19 =>
  o_gd (o_in x5 1000) <|
  o_nm ((MT_next M0) x5.toNatClampNeg) fun x5_184 =>
  some (0, x5_184, q19.1, q19.2.1, q19.2.2.1, q19.2.2.2.1, q19.2.2.2.2)
def m_MM_keyword_b129 (n : Nat) (rec : Int32 → SMT → SNP → SNO → SNF → SNA → Nat → Option (SNP × SNO × SNF × SNA × Nat)) (x1 : Int32) (M0 : SMT) (z : Int32 × SNP × SNO × SNF × SNA × Nat) : Option (Nat × Int32 × SNP × SNO × SNF × SNA × Nat) :=
  if z.1 < 0 then
    some (1, z.1, z.2.1, z.2.2.1, z.2.2.2.1, z.2.2.2.2.1, z.2.2.2.2.2)
  else
    if x1 = (16:Int32) then
      o_gd (o_in z.1 1000) <|
      o_bd (m_MM_isPattern n ((MT_name M0) z.1.toNatClampNeg) M0 z.2.1 z.2.2.1) fun q20 =>
      if q20.1 = 0 then
        o_bd (m_MM_fault (4:Int32) z.1 z.2.2.2.1) fun q21 =>
        m_MM_keyword_j168 n rec x1 z.1 M0 q20.2.1 q20.2.2 q21 z.2.2.2.2.1 (33)
      else
        m_MM_keyword_j168 n rec x1 z.1 M0 q20.2.1 q20.2.2 z.2.2.2.1 z.2.2.2.2.1 (33)
    else
      m_MM_keyword_j168 n rec x1 z.1 M0 z.2.1 z.2.2.1 z.2.2.2.1 z.2.2.2.2.1 z.2.2.2.2.2
def m_MM_keyword_j49 (n : Nat) (rec : Int32 → SMT → SNP → SNO → SNF → SNA → Nat → Option (SNP × SNO × SNF × SNA × Nat)) (x2 : Int32) (M0 : SMT) (Np : SNP) (No : SNO) (Nf : SNF) (Na : SNA) (rt : Nat) : Option (SNP × SNO × SNF × SNA × Nat) :=
  o_bd (m_MM_fault (1:Int32) x2 Nf) fun q24 =>
  some (Np, No, q24, Na, rt)
def m_MM_keyword_b69 (n : Nat) (rec : Int32 → SMT → SNP → SNO → SNF → SNA → Nat → Option (SNP × SNO × SNF × SNA × Nat)) (M0 : SMT) (z : Int32 × SNP × SNO × SNF × SNA × Nat) : Option (Nat × Int32 × SNP × SNO × SNF × SNA × Nat) :=
  if z.1 < 0 then
    some (1, z.1, z.2.1, z.2.2.1, z.2.2.2.1, z.2.2.2.2.1, z.2.2.2.2.2)
  else
    o_bd (rec z.1 M0 z.2.1 z.2.2.1 z.2.2.2.1 z.2.2.2.2.1 z.2.2.2.2.2) fun q25 =>
    o_gd (o_in z.1 1000) <|
    o_nm ((MT_next M0) z.1.toNatClampNeg) fun x5_90 =>
    some (0, x5_90, q25.1, q25.2.1, q25.2.2.1, q25.2.2.2.1, q25.2.2.2.2)
def m_MM_keyword (n : Nat) (rec : Int32 → SMT → SNP → SNO → SNF → SNA → Nat → Option (SNP × SNO × SNF × SNA × Nat)) (x1 : Int32) (x2 : Int32) (x3 : Int32) (M0 : SMT) (Np : SNP) (No : SNO) (Nf : SNF) (Na : SNA) (rt : Nat) : Option (SNP × SNO × SNF × SNA × Nat) :=
  o_gd (o_in x2 1000) <|
  o_nm ((MT_kind M0) x2.toNatClampNeg) fun x4_9 =>
  if (10:Int32) ≤ x1 then
    if (14:Int32) ≤ x1 then
      if (18:Int32) ≤ x1 then
        if (23:Int32) ≤ x1 then
          if (31:Int32) ≤ x1 then
            if x1 = (31:Int32) then
              if x4_9 = (4:Int32) then
                o_bd (m_MM_isPattern n x2 M0 Np No) fun q12 =>
                if q12.1 = 0 then
                  o_bd (m_MM_fault (4:Int32) x2 Nf) fun q13 =>
                  some (q12.2.1, q12.2.2, q13, Na, (33))
                else
                  some (q12.2.1, q12.2.2, Nf, Na, (33))
              else
                o_bd (m_MM_fault (1:Int32) x2 Nf) fun q14 =>
                some (Np, No, q14, Na, rt)
            else
              if x1 = (32:Int32) then
                if x4_9 = (4:Int32) then
                  some (Np, No, Nf, Na, rt)
                else
                  o_bd (m_MM_fault (1:Int32) x2 Nf) fun q11 =>
                  some (Np, No, q11, Na, rt)
              else
                if x1 = (33:Int32) then
                  o_bd (m_MM_anchor n x2 x3 M0 Nf Na) fun q10 =>
                  some (Np, No, q10.1, q10.2, rt)
                else
                  if x1 = (34:Int32) then
                    o_bd (m_MM_type n x2 M0 Nf) fun q9 =>
                    some (Np, No, q9, Na, rt)
                  else
                    if x1 = (35:Int32) then
                      if x4_9 = (5:Int32) then
                        some (Np, No, Nf, Na, rt)
                      else
                        o_bd (m_MM_fault (1:Int32) x2 Nf) fun q8 =>
                        some (Np, No, q8, Na, rt)
                    else
                      if x1 = (37:Int32) then
                        o_bd (m_MM_in x4_9 (1:Int32) (2:Int32)) fun q6 =>
                        if q6 = 0 then
                          o_bd (m_MM_fault (1:Int32) x2 Nf) fun q7 =>
                          some (Np, No, q7, Na, rt)
                        else
                          some (Np, No, Nf, Na, rt)
                      else
                        if x1 = (38:Int32) then
                          o_bd (m_MM_strings n x2 M0 Nf) fun q5 =>
                          some (Np, No, q5, Na, rt)
                        else
                          if x1 = (39:Int32) then
                            if x4_9 = (6:Int32) then
                              o_gd (o_in x2 1000) <|
                              o_nm ((MT_first M0) x2.toNatClampNeg) fun x5_475 =>
                              o_bd (o_lp n (m_MM_keyword_b477 n rec M0 Np No Na rt) (x5_475, Nf)) fun q3 =>
                              some (Np, No, q3.2.2, Na, rt)
                            else
                              o_bd (m_MM_fault (1:Int32) x2 Nf) fun q4 =>
                              some (Np, No, q4, Na, rt)
                          else
                            if x1 < (40:Int32) then
                              some (Np, No, Nf, Na, rt)
                            else
                              o_bd (m_MM_fault (2:Int32) x2 Nf) fun q1 =>
                              some (Np, No, q1, Na, rt)
          else
            o_bd (m_MT_isWhole x2 M0) fun q15 =>
            if q15 = 0 then
              m_MM_keyword_j283 n rec x2 M0 Np No Nf Na rt
            else
              o_gd (o_in x2 1000) <|
              if ((MT_minus M0) x2.toNatClampNeg) = 0 then
                o_bd (m_MM_intOf n x2 M0) fun q17 =>
                if q17 ≤ (1000000:Int32) then
                  some (Np, No, Nf, Na, rt)
                else
                  m_MM_keyword_j283 n rec x2 M0 Np No Nf Na rt
              else
                m_MM_keyword_j283 n rec x2 M0 Np No Nf Na rt
        else
          if x4_9 = (3:Int32) then
            if x1 = (22:Int32) then
              o_gd (o_in x2 1000) <|
              if ((MT_many M0) x2.toNatClampNeg) = 0 then
                m_MM_keyword_j234 n rec x2 M0 Np No Nf Na rt
              else
                o_gd (o_in x2 1000) <|
                if ((MT_minus M0) x2.toNatClampNeg) = 0 then
                  some (Np, No, Nf, Na, rt)
                else
                  m_MM_keyword_j234 n rec x2 M0 Np No Nf Na rt
            else
              some (Np, No, Nf, Na, rt)
          else
            m_MM_keyword_j234 n rec x2 M0 Np No Nf Na rt
      else
        if x4_9 = (6:Int32) then
          o_gd (o_in x2 1000) <|
          o_nm ((MT_first M0) x2.toNatClampNeg) fun x5_127 =>
          o_bd (o_lp n (m_MM_keyword_b129 n rec x1 M0) (x5_127, Np, No, Nf, Na, rt)) fun q22 =>
          some (q22.2.2.1, q22.2.2.2.1, q22.2.2.2.2.1, q22.2.2.2.2.2.1, q22.2.2.2.2.2.2)
        else
          o_bd (m_MM_fault (1:Int32) x2 Nf) fun q23 =>
          some (Np, No, q23, Na, rt)
    else
      if x4_9 = (5:Int32) then
        o_gd (o_in x2 1000) <|
        if ((MT_many M0) x2.toNatClampNeg) = 0 then
          m_MM_keyword_j49 n rec x2 M0 Np No Nf Na rt
        else
          o_gd (o_in x2 1000) <|
          o_nm ((MT_first M0) x2.toNatClampNeg) fun x5_67 =>
          o_bd (o_lp n (m_MM_keyword_b69 n rec M0) (x5_67, Np, No, Nf, Na, rt)) fun q26 =>
          some (q26.2.2.1, q26.2.2.2.1, q26.2.2.2.2.1, q26.2.2.2.2.2.1, q26.2.2.2.2.2.2)
      else
        m_MM_keyword_j49 n rec x2 M0 Np No Nf Na rt
  else
    o_bd (rec x2 M0 Np No Nf Na rt) fun q27 =>
    some (q27.1, q27.2.1, q27.2.2.1, q27.2.2.2.1, q27.2.2.2.2)
def m_MM_visit_b75 (n : Nat) (rec : Int32 → SMT → SNP → SNO → SNF → SNA → Nat → Option (SNP × SNO × SNF × SNA × Nat)) (x1 : Int32) (x2 : Int32) (M0 : SMT) (Np : SNP) (No : SNO) (Nf : SNF) (rt : Nat) (z : Int32 × SNA) : Option (Nat × Int32 × SNA) :=
  if (44:Int32) ≤ z.1 then
    some (1, z.1, z.2)
  else
    o_gd (o_in x2 1000) <|
    o_gd (o_in z.1 44) <|
    o_bd (m_MT_is n ((MT_name M0) x2.toNatClampNeg) (mk_keys z.1.toNatClampNeg) M0) fun q2 =>
    if q2 = 0 then
      o_nm (z.1 + (1:Int32)) fun x3_116 =>
      some (0, x3_116, z.2)
    else
      o_gd (o_in x2 1000) <|
      o_nm (z.1 + (1:Int32)) fun x3_116 =>
      some (0, x3_116, (NA_mk (NA_anchors z.2) (upd (NA_key z.2) x2.toNatClampNeg z.1) (NA_target z.2) (NA_anchorValue z.2) (NA_anchorSchema z.2) (NA_isSchema z.2)))
def m_MM_visit_j143 (n : Nat) (rec : Int32 → SMT → SNP → SNO → SNF → SNA → Nat → Option (SNP × SNO × SNF × SNA × Nat)) (x1 : Int32) (x2 : Int32) (M0 : SMT) (Np : SNP) (No : SNO) (Nf : SNF) (Na : SNA) (rt : Nat) : Option (Nat × Int32 × SNP × SNO × SNF × SNA × Nat) :=
  o_gd (o_in x2 1000) <|
  o_nm ((MT_next M0) x2.toNatClampNeg) fun x2_152 =>
  some (0, x2_152, Np, No, Nf, Na, rt)
def m_MM_visit_b55 (n : Nat) (rec : Int32 → SMT → SNP → SNO → SNF → SNA → Nat → Option (SNP × SNO × SNF × SNA × Nat)) (x1 : Int32) (M0 : SMT) (z : Int32 × SNP × SNO × SNF × SNA × Nat) : Option (Nat × Int32 × SNP × SNO × SNF × SNA × Nat) :=
  if z.1 < 0 then
    some (1, z.1, z.2.1, z.2.2.1, z.2.2.2.1, z.2.2.2.2.1, z.2.2.2.2.2)
  else
    o_gd (o_in x1 1000) <|
    if ((MT_kind M0) x1.toNatClampNeg) = (6:Int32) then
      o_bd (o_lp n (m_MM_visit_b75 n rec x1 z.1 M0 z.2.1 z.2.2.1 z.2.2.2.1 z.2.2.2.2.2) ((0:Int32), z.2.2.2.2.1)) fun q3 =>
      o_gd (o_in z.1 1000) <|
      if ((NA_key q3.2.2) z.1.toNatClampNeg) < 0 then
        m_MM_visit_j143 n rec x1 z.1 M0 z.2.1 z.2.2.1 z.2.2.2.1 q3.2.2 z.2.2.2.2.2
      else
        o_gd (o_in z.1 1000) <|
        o_bd (m_MM_keyword n rec ((NA_key q3.2.2) z.1.toNatClampNeg) z.1 x1 M0 z.2.1 z.2.2.1 z.2.2.2.1 q3.2.2 z.2.2.2.2.2) fun q4 =>
        m_MM_visit_j143 n rec x1 z.1 M0 q4.1 q4.2.1 q4.2.2.1 q4.2.2.2.1 q4.2.2.2.2
    else
      some (1, z.1, z.2.1, z.2.2.1, z.2.2.2.1, z.2.2.2.2.1, z.2.2.2.2.2)
def m_MM_visit_j38 (n : Nat) (rec : Int32 → SMT → SNP → SNO → SNF → SNA → Nat → Option (SNP × SNO × SNF × SNA × Nat)) (x1 : Int32) (M0 : SMT) (Np : SNP) (No : SNO) (Nf : SNF) (Na : SNA) (rt : Nat) : Option (SNP × SNO × SNF × SNA × Nat) :=
  o_gd (o_in x1 1000) <|
  o_gd (o_in x1 1000) <|
  o_nm ((MT_first M0) x1.toNatClampNeg) fun x2_54 =>
  o_bd (o_lp n (m_MM_visit_b55 n rec x1 M0) (x2_54, Np, No, Nf, (NA_mk (NA_anchors Na) (NA_key Na) (NA_target Na) (NA_anchorValue Na) (NA_anchorSchema Na) (upd (NA_isSchema Na) x1.toNatClampNeg (vp_nar .boolean (1:Int32)))), rt)) fun q5 =>
  some (q5.2.2.1, q5.2.2.2.1, q5.2.2.2.2.1, q5.2.2.2.2.2.1, q5.2.2.2.2.2.2)
def m_MM_visit_F (n : Nat) (rec : Int32 → SMT → SNP → SNO → SNF → SNA → Nat → Option (SNP × SNO × SNF × SNA × Nat)) (x1 : Int32) (M0 : SMT) (Np : SNP) (No : SNO) (Nf : SNF) (Na : SNA) (rt : Nat) : Option (SNP × SNO × SNF × SNA × Nat) :=
  o_gd (o_in x1 1000) <|
  o_bd (m_MM_in ((MT_kind M0) x1.toNatClampNeg) (1:Int32) (2:Int32)) fun q1 =>
  if q1 = 0 then
    o_gd (o_in x1 1000) <|
    if ((MT_kind M0) x1.toNatClampNeg) = (6:Int32) then
      m_MM_visit_j38 n rec x1 M0 Np No Nf Na rt
    else
      o_bd (m_MM_fault (1:Int32) x1 Nf) fun q6 =>
      some (Np, No, q6, Na, rt)
  else
    m_MM_visit_j38 n rec x1 M0 Np No Nf Na rt
def m_MM_visit (n : Nat) : Nat → Int32 → SMT → SNP → SNO → SNF → SNA → Nat → Option (SNP × SNO × SNF × SNA × Nat)
  | 0, _, _, _, _, _, _, _ => none
  | d + 1, v0, v1, v2, v3, v4, v5, v6 => m_MM_visit_F n (m_MM_visit n d) v0 v1 v2 v3 v4 v5 v6
def m_MM_decode_j159 (n : Nat) (x2 : Int32) (x3 : Int32) (x4 : Int32) (x5 : Int32) (M0 : SMT) (Nh : SNH) : Option (Nat × Int32 × Int32 × SNH) :=
  if (128:Int32) ≤ x5 then
    if (2048:Int32) ≤ x5 then
      if (65536:Int32) ≤ x5 then
        o_nm (x3 + (1:Int32)) fun x3_301 =>
        o_gd (o_in x3 16004) <|
        o_nm (x3_301 + (1:Int32)) fun x3_319 =>
        o_gd (o_in x3_301 16004) <|
        o_nm (x3_319 + (1:Int32)) fun x3_340 =>
        o_gd (o_in x3_319 16004) <|
        o_nm (x3_340 + (1:Int32)) fun x3_361 =>
        o_gd (o_in x3_340 16004) <|
        o_nm (x4 + (1:Int32)) fun x4_374 =>
        some (0, x3_361, x4_374, (NH_mk (NH_path Nh) (NH_route Nh) (NH_seen1 Nh) (NH_pathSize Nh) (upd (upd (upd (upd (NH_octetRow Nh) x3.toNatClampNeg ((240:Int32) ||| (x5 >>> ((18:Int32) &&& 31)))) x3_301.toNatClampNeg ((128:Int32) ||| ((x5 >>> ((12:Int32) &&& 31)) &&& (63:Int32)))) x3_319.toNatClampNeg ((128:Int32) ||| ((x5 >>> ((6:Int32) &&& 31)) &&& (63:Int32)))) x3_340.toNatClampNeg ((128:Int32) ||| (x5 &&& (63:Int32)))) (NH_partRow Nh)))
      else
        o_nm (x3 + (1:Int32)) fun x3_241 =>
        o_gd (o_in x3 16004) <|
        o_nm (x3_241 + (1:Int32)) fun x3_259 =>
        o_gd (o_in x3_241 16004) <|
        o_nm (x3_259 + (1:Int32)) fun x3_280 =>
        o_gd (o_in x3_259 16004) <|
        o_nm (x4 + (1:Int32)) fun x4_374 =>
        some (0, x3_280, x4_374, (NH_mk (NH_path Nh) (NH_route Nh) (NH_seen1 Nh) (NH_pathSize Nh) (upd (upd (upd (NH_octetRow Nh) x3.toNatClampNeg ((224:Int32) ||| (x5 >>> ((12:Int32) &&& 31)))) x3_241.toNatClampNeg ((128:Int32) ||| ((x5 >>> ((6:Int32) &&& 31)) &&& (63:Int32)))) x3_259.toNatClampNeg ((128:Int32) ||| (x5 &&& (63:Int32)))) (NH_partRow Nh)))
    else
      o_nm (x3 + (1:Int32)) fun x3_194 =>
      o_gd (o_in x3 16004) <|
      o_nm (x3_194 + (1:Int32)) fun x3_212 =>
      o_gd (o_in x3_194 16004) <|
      o_nm (x4 + (1:Int32)) fun x4_374 =>
      some (0, x3_212, x4_374, (NH_mk (NH_path Nh) (NH_route Nh) (NH_seen1 Nh) (NH_pathSize Nh) (upd (upd (NH_octetRow Nh) x3.toNatClampNeg ((192:Int32) ||| (x5 >>> ((6:Int32) &&& 31)))) x3_194.toNatClampNeg ((128:Int32) ||| (x5 &&& (63:Int32)))) (NH_partRow Nh)))
  else
    o_nm (x3 + (1:Int32)) fun x3_172 =>
    o_gd (o_in x3 16004) <|
    o_nm (x4 + (1:Int32)) fun x4_374 =>
    some (0, x3_172, x4_374, (NH_mk (NH_path Nh) (NH_route Nh) (NH_seen1 Nh) (NH_pathSize Nh) (upd (NH_octetRow Nh) x3.toNatClampNeg x5) (NH_partRow Nh)))
def m_MM_decode_b5 (n : Nat) (x2 : Int32) (M0 : SMT) (z : Int32 × Int32 × SNH) : Option (Nat × Int32 × Int32 × SNH) :=
  if x2 ≤ z.2.1 then
    some (1, z.1, z.2.1, z.2.2)
  else
    o_gd (o_in z.2.1 4000) <|
    o_nm ((MT_characters M0) z.2.1.toNatClampNeg) fun x5_21 =>
    if x5_21 = (37:Int32) then
      if x2 ≤ (z.2.1 + (2:Int32)) then
        m_MM_decode_j159 n x2 z.1 z.2.1 x5_21 M0 z.2.2
      else
        o_gd (o_in (z.2.1 + (1:Int32)) 4000) <|
        o_bd (m_MT_hex ((MT_characters M0) (z.2.1 + (1:Int32)).toNatClampNeg)) fun q1 =>
        if q1 < 0 then
          m_MM_decode_j159 n x2 z.1 z.2.1 x5_21 M0 z.2.2
        else
          o_gd (o_in (z.2.1 + (2:Int32)) 4000) <|
          o_bd (m_MT_hex ((MT_characters M0) (z.2.1 + (2:Int32)).toNatClampNeg)) fun q2 =>
          if q2 < 0 then
            m_MM_decode_j159 n x2 z.1 z.2.1 x5_21 M0 z.2.2
          else
            o_gd (o_in (z.2.1 + (1:Int32)) 4000) <|
            if (128:Int32) ≤ ((MT_characters M0) (z.2.1 + (1:Int32)).toNatClampNeg) then
              m_MM_decode_j159 n x2 z.1 z.2.1 x5_21 M0 z.2.2
            else
              o_gd (o_in (z.2.1 + (2:Int32)) 4000) <|
              if (128:Int32) ≤ ((MT_characters M0) (z.2.1 + (2:Int32)).toNatClampNeg) then
                m_MM_decode_j159 n x2 z.1 z.2.1 x5_21 M0 z.2.2
              else
                o_nm (z.1 + (1:Int32)) fun x3_115 =>
                o_gd (o_in (z.2.1 + (1:Int32)) 4000) <|
                o_bd (m_MT_hex ((MT_characters M0) (z.2.1 + (1:Int32)).toNatClampNeg)) fun q3 =>
                o_gd (o_in (z.2.1 + (2:Int32)) 4000) <|
                o_bd (m_MT_hex ((MT_characters M0) (z.2.1 + (2:Int32)).toNatClampNeg)) fun q4 =>
                o_gd (o_in z.1 16004) <|
                o_nm (z.2.1 + (2:Int32)) fun x4_153 =>
                o_nm (x4_153 + (1:Int32)) fun x4_374 =>
                some (0, x3_115, x4_374, (NH_mk (NH_path z.2.2) (NH_route z.2.2) (NH_seen1 z.2.2) (NH_pathSize z.2.2) (upd (NH_octetRow z.2.2) z.1.toNatClampNeg (((16:Int32) * q3) + q4)) (NH_partRow z.2.2)))
    else
      m_MM_decode_j159 n x2 z.1 z.2.1 x5_21 M0 z.2.2
def m_MM_decode_b542 (n : Nat) (x3 : Int32) (x4 : Int32) (x6 : Int32) (M0 : SMT) (Nh : SNH) (z : Int32 × Int32) : Option (Nat × Int32 × Int32) :=
  if x6 < z.2 then
    some (2, z.1, z.2)
  else
    o_gd (o_in (x4 + z.2) 16004) <|
    if (((NH_octetRow Nh) (x4 + z.2).toNatClampNeg) &&& (192:Int32)) = (128:Int32) then
      o_gd (o_in (x4 + z.2) 16004) <|
      o_nm ((z.1 <<< ((6:Int32) &&& 31)) ||| (((NH_octetRow Nh) (x4 + z.2).toNatClampNeg) &&& (63:Int32))) fun x7_590 =>
      o_nm (z.2 + (1:Int32)) fun x8_592 =>
      some (0, x7_590, x8_592)
    else
      some (1, z.1, z.2)
def m_MM_decode_j648 (n : Nat) (x3 : Int32) (x4 : Int32) (x6 : Int32) (x7 : Int32) (M0 : SMT) (Nh : SNH) : Option (Nat × Int32 × SNH) :=
  o_gd (o_in (NH_pathSize Nh) 8192) <|
  o_nm (x4 + x6) fun x4_671 =>
  o_nm (x4_671 + (1:Int32)) fun x4_673 =>
  some (0, x4_673, (NH_mk (upd (NH_path Nh) (NH_pathSize Nh).toNatClampNeg x7) (NH_route Nh) (NH_seen1 Nh) ((NH_pathSize Nh) + (1:Int32)) (NH_octetRow Nh) (NH_partRow Nh)))
def m_MM_decode_j626 (n : Nat) (x3 : Int32) (x4 : Int32) (x6 : Int32) (x7 : Int32) (M0 : SMT) (Nh : SNH) : Option (Nat × Int32 × SNH) :=
  if x6 = (3:Int32) then
    o_bd (m_MM_in x7 (65536:Int32) (1114111:Int32)) fun q7 =>
    if q7 = 0 then
      some (3, x4, Nh)
    else
      m_MM_decode_j648 n x3 x4 x6 x7 M0 Nh
  else
    m_MM_decode_j648 n x3 x4 x6 x7 M0 Nh
def m_MM_decode_j476 (n : Nat) (x3 : Int32) (x4 : Int32) (x5 : Int32) (y0 : Int32) (M0 : SMT) (Nh : SNH) : Option (Nat × Int32 × SNH) :=
  if y0 < 0 then
    some (1, x4, Nh)
  else
    if (x4 + y0) < x3 then
      if y0 = 0 then
        o_bd (o_lp n (m_MM_decode_b542 n x3 x4 y0 M0 Nh) (x5, (1:Int32))) fun q13 =>
        if q13.1 = 1 then
          some (2, x4, Nh)
        else
        if y0 = (2:Int32) then
          if q13.2.1 < (2048:Int32) then
            some (3, x4, Nh)
          else
            o_bd (m_MM_in q13.2.1 (55296:Int32) (57343:Int32)) fun q14 =>
            if q14 = 0 then
              m_MM_decode_j626 n x3 x4 y0 q13.2.1 M0 Nh
            else
              some (3, x4, Nh)
        else
          m_MM_decode_j626 n x3 x4 y0 q13.2.1 M0 Nh
      else
        if y0 = (1:Int32) then
          o_nm (x5 &&& (31:Int32)) fun x7_537 =>
          o_bd (o_lp n (m_MM_decode_b542 n x3 x4 y0 M0 Nh) (x7_537, (1:Int32))) fun q11 =>
          if q11.1 = 1 then
            some (2, x4, Nh)
          else
          if y0 = (2:Int32) then
            if q11.2.1 < (2048:Int32) then
              some (3, x4, Nh)
            else
              o_bd (m_MM_in q11.2.1 (55296:Int32) (57343:Int32)) fun q12 =>
              if q12 = 0 then
                m_MM_decode_j626 n x3 x4 y0 q11.2.1 M0 Nh
              else
                some (3, x4, Nh)
          else
            m_MM_decode_j626 n x3 x4 y0 q11.2.1 M0 Nh
        else
          if y0 = (2:Int32) then
            o_nm (x5 &&& (15:Int32)) fun x7_537 =>
            o_bd (o_lp n (m_MM_decode_b542 n x3 x4 y0 M0 Nh) (x7_537, (1:Int32))) fun q9 =>
            if q9.1 = 1 then
              some (2, x4, Nh)
            else
            if y0 = (2:Int32) then
              if q9.2.1 < (2048:Int32) then
                some (3, x4, Nh)
              else
                o_bd (m_MM_in q9.2.1 (55296:Int32) (57343:Int32)) fun q10 =>
                if q10 = 0 then
                  m_MM_decode_j626 n x3 x4 y0 q9.2.1 M0 Nh
                else
                  some (3, x4, Nh)
            else
              m_MM_decode_j626 n x3 x4 y0 q9.2.1 M0 Nh
          else
            o_nm (x5 &&& (7:Int32)) fun x7_537 =>
            o_bd (o_lp n (m_MM_decode_b542 n x3 x4 y0 M0 Nh) (x7_537, (1:Int32))) fun q6 =>
            if q6.1 = 1 then
              some (2, x4, Nh)
            else
            if y0 = (2:Int32) then
              if q6.2.1 < (2048:Int32) then
                some (3, x4, Nh)
              else
                o_bd (m_MM_in q6.2.1 (55296:Int32) (57343:Int32)) fun q8 =>
                if q8 = 0 then
                  m_MM_decode_j626 n x3 x4 y0 q6.2.1 M0 Nh
                else
                  some (3, x4, Nh)
            else
              m_MM_decode_j626 n x3 x4 y0 q6.2.1 M0 Nh
    else
      some (1, x4, Nh)
def m_MM_decode_j455 (n : Nat) (x3 : Int32) (x4 : Int32) (x5 : Int32) (M0 : SMT) (Nh : SNH) : Option (Nat × Int32 × SNH) :=
  if x5 < (240:Int32) then
    m_MM_decode_j476 n x3 x4 x5 (-1:Int32) M0 Nh
  else
    if (245:Int32) ≤ x5 then
      m_MM_decode_j476 n x3 x4 x5 (-1:Int32) M0 Nh
    else
      m_MM_decode_j476 n x3 x4 x5 (3:Int32) M0 Nh
def m_MM_decode_j435 (n : Nat) (x3 : Int32) (x4 : Int32) (x5 : Int32) (M0 : SMT) (Nh : SNH) : Option (Nat × Int32 × SNH) :=
  if x5 < (224:Int32) then
    m_MM_decode_j455 n x3 x4 x5 M0 Nh
  else
    if (240:Int32) ≤ x5 then
      m_MM_decode_j455 n x3 x4 x5 M0 Nh
    else
      m_MM_decode_j476 n x3 x4 x5 (2:Int32) M0 Nh
def m_MM_decode_b388 (n : Nat) (x3 : Int32) (M0 : SMT) (z : Int32 × SNH) : Option (Nat × Int32 × SNH) :=
  if x3 ≤ z.1 then
    some (4, z.1, z.2)
  else
    o_gd (o_in z.1 16004) <|
    o_nm ((NH_octetRow z.2) z.1.toNatClampNeg) fun x5_401 =>
    if (128:Int32) ≤ x5_401 then
      if x5_401 < (194:Int32) then
        m_MM_decode_j435 n x3 z.1 x5_401 M0 z.2
      else
        if (224:Int32) ≤ x5_401 then
          m_MM_decode_j435 n x3 z.1 x5_401 M0 z.2
        else
          m_MM_decode_j476 n x3 z.1 x5_401 (1:Int32) M0 z.2
    else
      m_MM_decode_j476 n x3 z.1 x5_401 (0:Int32) M0 z.2
def m_MM_decode (n : Nat) (x1 : Int32) (x2 : Int32) (M0 : SMT) (Nh : SNH) : Option (Int32 × SNH) :=
  o_bd (o_lp n (m_MM_decode_b5 n x2 M0) ((0:Int32), x1, Nh)) fun q5 =>
  o_bd (o_lp n (m_MM_decode_b388 n q5.2.1 M0) ((0:Int32), (NH_mk (NH_path q5.2.2.2) (NH_route q5.2.2.2) (NH_seen1 q5.2.2.2) (0:Int32) (NH_octetRow q5.2.2.2) (NH_partRow q5.2.2.2)))) fun q15 =>
  if q15.1 = 1 then
    some ((0:Int32), q15.2.2)
  else
  if q15.1 = 2 then
    some ((0:Int32), q15.2.2)
  else
  if q15.1 = 3 then
    some ((0:Int32), q15.2.2)
  else
  some ((1:Int32), q15.2.2)
def m_MM_part_j90 (n : Nat) (x1 : Int32) (x3 : Int32) (x4 : Int32) (x5 : Int32) (x6 : Int32) (M0 : SMT) (Nh : SNH) : Option (Nat × Int32 × Int32 × SNH) :=
  o_nm (x4 + (1:Int32)) fun x4_96 =>
  o_gd (o_in x4 4004) <|
  o_nm (x5 + (1:Int32)) fun x5_102 =>
  some (0, x4_96, x5_102, (NH_mk (NH_path Nh) (NH_route Nh) (NH_seen1 Nh) (NH_pathSize Nh) (NH_octetRow Nh) (upd (NH_partRow Nh) x4.toNatClampNeg x6)))
def m_MM_part_j66 (n : Nat) (x1 : Int32) (x3 : Int32) (x4 : Int32) (x5 : Int32) (M0 : SMT) (Nh : SNH) : Option (Nat × Int32 × Int32 × SNH) :=
  o_nm (x5 + (1:Int32)) fun x5_70 =>
  o_gd (o_in x5_70 8192) <|
  if ((NH_path Nh) x5_70.toNatClampNeg) = (48:Int32) then
    m_MM_part_j90 n x1 x3 x4 x5_70 (126:Int32) M0 Nh
  else
    m_MM_part_j90 n x1 x3 x4 x5_70 (47:Int32) M0 Nh
def m_MM_part_b6 (n : Nat) (x1 : Int32) (x3 : Int32) (M0 : SMT) (z : Int32 × Int32 × SNH) : Option (Nat × Int32 × Int32 × SNH) :=
  if x3 ≤ z.2.1 then
    some (2, z.1, z.2.1, z.2.2)
  else
    o_gd (o_in z.2.1 8192) <|
    o_nm ((NH_path z.2.2) z.2.1.toNatClampNeg) fun x6_19 =>
    if x6_19 = (126:Int32) then
      if (z.2.1 + (1:Int32)) = x3 then
        some (1, z.1, z.2.1, z.2.2)
      else
        o_gd (o_in (z.2.1 + (1:Int32)) 8192) <|
        if ((NH_path z.2.2) (z.2.1 + (1:Int32)).toNatClampNeg) = (48:Int32) then
          m_MM_part_j66 n x1 x3 z.1 z.2.1 M0 z.2.2
        else
          o_gd (o_in (z.2.1 + (1:Int32)) 8192) <|
          if ((NH_path z.2.2) (z.2.1 + (1:Int32)).toNatClampNeg) = (49:Int32) then
            m_MM_part_j66 n x1 x3 z.1 z.2.1 M0 z.2.2
          else
            some (1, z.1, z.2.1, z.2.2)
    else
      m_MM_part_j90 n x1 x3 z.1 z.2.1 x6_19 M0 z.2.2
def m_MM_part_b305 (n : Nat) (x1 : Int32) (x4 : Int32) (M0 : SMT) (Nh : SNH) (z : Int32 × Int32) : Option (Nat × Int32 × Int32) :=
  if x4 ≤ z.2 then
    some (2, z.1, z.2)
  else
    o_gd (o_in z.2 4004) <|
    o_bd (m_MM_in ((NH_partRow Nh) z.2.toNatClampNeg) (48:Int32) (57:Int32)) fun q2 =>
    if q2 = 0 then
      some (1, z.1, z.2)
    else
      o_gd (o_in z.2 4004) <|
      o_nm ((((10:Int32) * z.1) + ((NH_partRow Nh) z.2.toNatClampNeg)) - (48:Int32)) fun x5_347 =>
      o_nm (z.2 + (1:Int32)) fun x6_349 =>
      some (0, x5_347, x6_349)
def m_MM_part_b366 (n : Nat) (M0 : SMT) (Nh : SNH) (z : Int32 × Int32) : Option (Nat × Int32 × Int32) :=
  if z.2 < 0 then
    some (1, z.1, z.2)
  else
    if z.1 ≤ 0 then
      some (1, z.1, z.2)
    else
      o_gd (o_in z.2 1000) <|
      o_nm ((MT_next M0) z.2.toNatClampNeg) fun x6_386 =>
      o_nm (z.1 + (-1:Int32)) fun x5_388 =>
      some (0, x5_388, x6_386)
def m_MM_part_j291 (n : Nat) (x1 : Int32) (x4 : Int32) (M0 : SMT) (Nh : SNH) : Option (Int32 × SNH) :=
  if x4 ≤ (3:Int32) then
    o_bd (o_lp n (m_MM_part_b305 n x1 x4 M0 Nh) ((0:Int32), (0:Int32))) fun q3 =>
    if q3.1 = 1 then
      some ((-1:Int32), Nh)
    else
    o_gd (o_in x1 1000) <|
    o_nm ((MT_first M0) x1.toNatClampNeg) fun x6_364 =>
    o_bd (o_lp n (m_MM_part_b366 n M0 Nh) (q3.2.1, x6_364)) fun q4 =>
    some (q4.2.2, Nh)
  else
    some ((-1:Int32), Nh)
def m_MM_part_b175 (n : Nat) (x4 : Int32) (x5 : Int32) (x6 : Int32) (M0 : SMT) (Nh : SNH) (z : Int32 × Int32) : Option (Nat × Int32 × Int32) :=
  if z.1 = 0 then
    some (1, z.1, z.2)
  else
    if x4 ≤ z.2 then
      some (1, z.1, z.2)
    else
      o_gd (o_in x6 1000) <|
      o_gd (o_in (((MT_from M0) x6.toNatClampNeg) + z.2) 4000) <|
      o_gd (o_in z.2 4004) <|
      if ((MT_characters M0) (((MT_from M0) x6.toNatClampNeg) + z.2).toNatClampNeg) = ((NH_partRow Nh) z.2.toNatClampNeg) then
        o_nm (z.2 + (1:Int32)) fun x8_225 =>
        some (0, (1:Int32), x8_225)
      else
        o_nm (z.2 + (1:Int32)) fun x8_225 =>
        some (0, (0:Int32), x8_225)
def m_MM_part_j231 (n : Nat) (x4 : Int32) (x5 : Int32) (x7 : Int32) (M0 : SMT) (Nh : SNH) : Option (Nat × Int32) :=
  if x7 = 0 then
    o_gd (o_in x5 1000) <|
    o_nm ((MT_next M0) x5.toNatClampNeg) fun x5_249 =>
    some (0, x5_249)
  else
    some (1, x5)
def m_MM_part_b133 (n : Nat) (x4 : Int32) (M0 : SMT) (Nh : SNH) (z : Int32) : Option (Nat × Int32) :=
  if z < 0 then
    some (2, z)
  else
    o_gd (o_in z 1000) <|
    o_nm ((MT_name M0) z.toNatClampNeg) fun x6_148 =>
    o_gd (o_in x6_148 1000) <|
    if ((MT_many M0) x6_148.toNatClampNeg) = x4 then
      o_bd (o_lp n (m_MM_part_b175 n x4 z x6_148 M0 Nh) ((1:Int32), (0:Int32))) fun q6 =>
      m_MM_part_j231 n x4 z q6.2.1 M0 Nh
    else
      o_bd (o_lp n (m_MM_part_b175 n x4 z x6_148 M0 Nh) ((0:Int32), (0:Int32))) fun q5 =>
      m_MM_part_j231 n x4 z q5.2.1 M0 Nh
def m_MM_part (n : Nat) (x1 : Int32) (x2 : Int32) (x3 : Int32) (M0 : SMT) (Nh : SNH) : Option (Int32 × SNH) :=
  o_bd (o_lp n (m_MM_part_b6 n x1 x3 M0) ((0:Int32), x2, Nh)) fun q1 =>
  if q1.1 = 1 then
    some ((-1:Int32), q1.2.2.2)
  else
  o_gd (o_in x1 1000) <|
  if ((MT_kind M0) x1.toNatClampNeg) = (6:Int32) then
    o_gd (o_in x1 1000) <|
    o_nm ((MT_first M0) x1.toNatClampNeg) fun x5_131 =>
    o_bd (o_lp n (m_MM_part_b133 n q1.2.1 M0 q1.2.2.2) (x5_131)) fun q7 =>
    if q7.1 = 1 then
      some (q7.2, q1.2.2.2)
    else
    some ((-1:Int32), q1.2.2.2)
  else
    o_gd (o_in x1 1000) <|
    if ((MT_kind M0) x1.toNatClampNeg) = (5:Int32) then
      if q1.2.1 = 0 then
        some ((-1:Int32), q1.2.2.2)
      else
        if q1.2.1 ≤ (1:Int32) then
          m_MM_part_j291 n x1 q1.2.1 M0 q1.2.2.2
        else
          o_gd (o_in (0:Int32) 4004) <|
          if ((NH_partRow q1.2.2.2) (0:Int32).toNatClampNeg) = (48:Int32) then
            some ((-1:Int32), q1.2.2.2)
          else
            m_MM_part_j291 n x1 q1.2.1 M0 q1.2.2.2
    else
      some ((-1:Int32), q1.2.2.2)
def m_MM_leads_b221 (n : Nat) (x4 : Int32) (x5 : Int32) (M0 : SMT) (Na : SNA) (Nh : SNH) (z : Int32) : Option (Nat × Int32) :=
  if (NH_pathSize Nh) ≤ z then
    some (1, z)
  else
    o_gd (o_in z 8192) <|
    if ((NH_path Nh) z.toNatClampNeg) = (47:Int32) then
      some (1, z)
    else
      o_nm (z + (1:Int32)) fun x6_242 =>
      some (0, x6_242)
def m_MM_leads_j248 (n : Nat) (x4 : Int32) (x5 : Int32) (x6 : Int32) (M0 : SMT) (Na : SNA) (Nh : SNH) : Option (Nat × Int32 × Int32 × SNH) :=
  o_bd (m_MM_part n x4 x5 x6 M0 Nh) fun q3 =>
  if 0 ≤ q3.1 then
    if x6 = (NH_pathSize q3.2) then
      some (2, q3.1, x5, q3.2)
    else
      o_nm (x6 + (1:Int32)) fun x5_297 =>
      some (0, q3.1, x5_297, q3.2)
  else
    some (1, q3.1, x5, q3.2)
def m_MM_leads_b217 (n : Nat) (M0 : SMT) (Na : SNA) (z : Int32 × Int32 × SNH) : Option (Nat × Int32 × Int32 × SNH) :=
  o_bd (o_lp n (m_MM_leads_b221 n z.1 z.2.1 M0 Na z.2.2) (z.2.1)) fun q2 =>
  m_MM_leads_j248 n z.1 z.2.1 q2.2 M0 Na z.2.2
def m_MM_leads_b106 (n : Nat) (x2 : Int32) (x3 : Int32) (x4 : Int32) (M0 : SMT) (Na : SNA) (Nh : SNH) (z : Int32 × Int32) : Option (Nat × Int32 × Int32) :=
  if z.1 = 0 then
    some (1, z.1, z.2)
  else
    if (x2 - (1:Int32)) ≤ z.2 then
      some (1, z.1, z.2)
    else
      o_gd (o_in x4 1000) <|
      o_gd (o_in ((NA_anchorValue Na) x4.toNatClampNeg) 1000) <|
      o_gd (o_in (((MT_from M0) ((NA_anchorValue Na) x4.toNatClampNeg).toNatClampNeg) + z.2) 4000) <|
      o_gd (o_in ((x3 + (1:Int32)) + z.2) 4000) <|
      if ((MT_characters M0) (((MT_from M0) ((NA_anchorValue Na) x4.toNatClampNeg).toNatClampNeg) + z.2).toNatClampNeg) = ((MT_characters M0) ((x3 + (1:Int32)) + z.2).toNatClampNeg) then
        o_nm (z.2 + (1:Int32)) fun x6_169 =>
        some (0, (1:Int32), x6_169)
      else
        o_nm (z.2 + (1:Int32)) fun x6_169 =>
        some (0, (0:Int32), x6_169)
def m_MM_leads_j175 (n : Nat) (x2 : Int32) (x3 : Int32) (x4 : Int32) (x5 : Int32) (M0 : SMT) (Na : SNA) (Nh : SNH) : Option (Nat × Int32) :=
  if x5 = 0 then
    o_nm (x4 + (1:Int32)) fun x4_188 =>
    some (0, x4_188)
  else
    some (1, x4)
def m_MM_leads_b66 (n : Nat) (x2 : Int32) (x3 : Int32) (M0 : SMT) (Na : SNA) (Nh : SNH) (z : Int32) : Option (Nat × Int32) :=
  if (NA_anchors Na) ≤ z then
    some (2, z)
  else
    o_gd (o_in z 1000) <|
    o_gd (o_in ((NA_anchorValue Na) z.toNatClampNeg) 1000) <|
    if ((MT_many M0) ((NA_anchorValue Na) z.toNatClampNeg).toNatClampNeg) = (x2 - (1:Int32)) then
      o_bd (o_lp n (m_MM_leads_b106 n x2 x3 z M0 Na Nh) ((1:Int32), (0:Int32))) fun q6 =>
      m_MM_leads_j175 n x2 x3 z q6.2.1 M0 Na Nh
    else
      o_bd (o_lp n (m_MM_leads_b106 n x2 x3 z M0 Na Nh) ((0:Int32), (0:Int32))) fun q5 =>
      m_MM_leads_j175 n x2 x3 z q5.2.1 M0 Na Nh
def m_MM_leads (n : Nat) (x1 : Int32) (M0 : SMT) (Na : SNA) (Nh : SNH) : Option (Int32 × SNH) :=
  o_gd (o_in x1 1000) <|
  o_nm ((MT_many M0) x1.toNatClampNeg) fun x2_9 =>
  o_gd (o_in x1 1000) <|
  o_nm ((MT_from M0) x1.toNatClampNeg) fun x3_19 =>
  if x2_9 = 0 then
    some ((-1:Int32), Nh)
  else
    o_gd (o_in x3_19 4000) <|
    if ((MT_characters M0) x3_19.toNatClampNeg) = (35:Int32) then
      if x2_9 = (1:Int32) then
        some ((0:Int32), Nh)
      else
        o_gd (o_in (x3_19 + (1:Int32)) 4000) <|
        if ((MT_characters M0) (x3_19 + (1:Int32)).toNatClampNeg) = (47:Int32) then
          o_bd (m_MM_decode n (x3_19 + (2:Int32)) (x3_19 + x2_9) M0 Nh) fun q1 =>
          if q1.1 = 0 then
            some ((-1:Int32), q1.2)
          else
            o_bd (o_lp n (m_MM_leads_b217 n M0 Na) ((0:Int32), (0:Int32), q1.2)) fun q4 =>
            if q4.1 = 1 then
              some ((-1:Int32), q4.2.2.2)
            else
            o_gd (o_in q4.2.1 1000) <|
            if ((NA_isSchema Na) q4.2.1.toNatClampNeg) = 0 then
              some ((-1:Int32), q4.2.2.2)
            else
              some (q4.2.1, q4.2.2.2)
        else
          o_bd (o_lp n (m_MM_leads_b66 n x2_9 x3_19 M0 Na Nh) ((0:Int32))) fun q7 =>
          if q7.1 = 1 then
            o_gd (o_in q7.2 1000) <|
            some (((NA_anchorSchema Na) q7.2.toNatClampNeg), Nh)
          else
          some ((-1:Int32), Nh)
    else
      some ((-1:Int32), Nh)
def m_MM_go (x1 : Int32) (x2 : Int32) (Nh : SNH) : Option (Int32 × SNH) :=
  o_gd (o_in x2 1000) <|
  if ((NH_seen1 Nh) x2.toNatClampNeg) = 0 then
    if x1 = (2000:Int32) then
      some (x1, Nh)
    else
      o_gd (o_in x1 2000) <|
      some ((x1 + (1:Int32)), (NH_mk (NH_path Nh) (upd (NH_route Nh) x1.toNatClampNeg x2) (NH_seen1 Nh) (NH_pathSize Nh) (NH_octetRow Nh) (NH_partRow Nh)))
  else
    some (x1, Nh)
def m_MM_comesBack_b2 (n : Nat) (x1 : Int32) (M0 : SMT) (Na : SNA) (z : Int32 × SNH) : Option (Nat × Int32 × SNH) :=
  if (MT_values M0) ≤ z.1 then
    some (1, z.1, z.2)
  else
    o_gd (o_in z.1 1000) <|
    o_nm (z.1 + (1:Int32)) fun x2_20 =>
    some (0, x2_20, (NH_mk (NH_path z.2) (NH_route z.2) (upd (NH_seen1 z.2) z.1.toNatClampNeg (vp_nar .boolean (0:Int32))) (NH_pathSize z.2) (NH_octetRow z.2) (NH_partRow z.2)))
def m_MM_comesBack_j248 (n : Nat) (x1 : Int32) (x2 : Int32) (x3 : Int32) (x5 : Int32) (M0 : SMT) (Na : SNA) (Nh : SNH) : Option (Nat × Int32 × Int32 × SNH) :=
  o_gd (o_in x5 1000) <|
  o_nm ((MT_next M0) x5.toNatClampNeg) fun x5_258 =>
  some (0, x2, x5_258, Nh)
def m_MM_comesBack_b220 (n : Nat) (x1 : Int32) (x3 : Int32) (x5 : Int32) (M0 : SMT) (Na : SNA) (z : Int32 × Int32 × SNH) : Option (Nat × Int32 × Int32 × SNH) :=
  if z.2.1 < 0 then
    some (1, z.1, z.2.1, z.2.2)
  else
    o_bd (m_MM_go z.1 z.2.1 z.2.2) fun q2 =>
    o_gd (o_in z.2.1 1000) <|
    o_nm ((MT_next M0) z.2.1.toNatClampNeg) fun x7_243 =>
    some (0, q2.1, x7_243, q2.2)
def m_MM_comesBack_j208 (n : Nat) (x1 : Int32) (x2 : Int32) (x3 : Int32) (x5 : Int32) (M0 : SMT) (Na : SNA) (Nh : SNH) : Option (Nat × Int32 × Int32 × SNH) :=
  o_gd (o_in x5 1000) <|
  o_nm ((MT_first M0) x5.toNatClampNeg) fun x7_218 =>
  o_bd (o_lp n (m_MM_comesBack_b220 n x1 x3 x5 M0 Na) (x2, x7_218, Nh)) fun q3 =>
  m_MM_comesBack_j248 n x1 q3.2.1 x3 x5 M0 Na q3.2.2.2
def m_MM_comesBack_j201 (n : Nat) (x1 : Int32) (x2 : Int32) (x3 : Int32) (x5 : Int32) (x6 : Int32) (M0 : SMT) (Na : SNA) (Nh : SNH) : Option (Nat × Int32 × Int32 × SNH) :=
  if x6 = (17:Int32) then
    m_MM_comesBack_j208 n x1 x2 x3 x5 M0 Na Nh
  else
    m_MM_comesBack_j248 n x1 x2 x3 x5 M0 Na Nh
def m_MM_comesBack_j187 (n : Nat) (x1 : Int32) (x2 : Int32) (x3 : Int32) (x5 : Int32) (x6 : Int32) (M0 : SMT) (Na : SNA) (Nh : SNH) : Option (Nat × Int32 × Int32 × SNH) :=
  if x6 < (10:Int32) then
    m_MM_comesBack_j201 n x1 x2 x3 x5 x6 M0 Na Nh
  else
    if x6 ≤ (12:Int32) then
      m_MM_comesBack_j208 n x1 x2 x3 x5 M0 Na Nh
    else
      m_MM_comesBack_j201 n x1 x2 x3 x5 x6 M0 Na Nh
def m_MM_comesBack_b128 (n : Nat) (x1 : Int32) (x3 : Int32) (M0 : SMT) (Na : SNA) (z : Int32 × Int32 × SNH) : Option (Nat × Int32 × Int32 × SNH) :=
  if z.2.1 < 0 then
    some (1, z.1, z.2.1, z.2.2)
  else
    o_gd (o_in z.2.1 1000) <|
    o_nm ((NA_key Na) z.2.1.toNatClampNeg) fun x6_140 =>
    if x6_140 = (32:Int32) then
      o_gd (o_in z.2.1 1000) <|
      o_bd (m_MM_go z.1 ((NA_target Na) z.2.1.toNatClampNeg) z.2.2) fun q5 =>
      m_MM_comesBack_j248 n x1 q5.1 x3 z.2.1 M0 Na q5.2
    else
      if x6_140 < 0 then
        m_MM_comesBack_j187 n x1 z.1 x3 z.2.1 x6_140 M0 Na z.2.2
      else
        if (3:Int32) < x6_140 then
          m_MM_comesBack_j187 n x1 z.1 x3 z.2.1 x6_140 M0 Na z.2.2
        else
          o_bd (m_MM_go z.1 z.2.1 z.2.2) fun q4 =>
          m_MM_comesBack_j248 n x1 q4.1 x3 z.2.1 M0 Na q4.2
def m_MM_comesBack_j96 (n : Nat) (x1 : Int32) (x2 : Int32) (x4 : Int32) (M0 : SMT) (Na : SNA) (Nh : SNH) : Option (Nat × Int32 × Int32 × SNH) :=
  o_gd (o_in x4 1000) <|
  if ((MT_kind M0) x4.toNatClampNeg) = (6:Int32) then
    o_gd (o_in x4 1000) <|
    o_nm ((MT_first M0) x4.toNatClampNeg) fun x5_126 =>
    o_bd (o_lp n (m_MM_comesBack_b128 n x1 (0:Int32) M0 Na) (x2, x5_126, Nh)) fun q6 =>
    some (0, q6.2.1, (0:Int32), q6.2.2.2)
  else
    some (0, x2, (0:Int32), Nh)
def m_MM_comesBack_j84 (n : Nat) (x1 : Int32) (x2 : Int32) (x3 : Int32) (x4 : Int32) (M0 : SMT) (Na : SNA) (Nh : SNH) : Option (Nat × Int32 × Int32 × SNH) :=
  if x3 = 0 then
    o_gd (o_in x4 1000) <|
    m_MM_comesBack_j96 n x1 x2 x4 M0 Na (NH_mk (NH_path Nh) (NH_route Nh) (upd (NH_seen1 Nh) x4.toNatClampNeg (vp_nar .boolean (1:Int32))) (NH_pathSize Nh) (NH_octetRow Nh) (NH_partRow Nh))
  else
    m_MM_comesBack_j96 n x1 x2 x4 M0 Na Nh
def m_MM_comesBack_j67 (n : Nat) (x1 : Int32) (x2 : Int32) (x3 : Int32) (x4 : Int32) (M0 : SMT) (Na : SNA) (Nh : SNH) : Option (Nat × Int32 × Int32 × SNH) :=
  if x3 = 0 then
    o_gd (o_in x4 1000) <|
    if ((NH_seen1 Nh) x4.toNatClampNeg) = 0 then
      m_MM_comesBack_j84 n x1 x2 x3 x4 M0 Na Nh
    else
      some (0, x2, x3, Nh)
  else
    m_MM_comesBack_j84 n x1 x2 x3 x4 M0 Na Nh
def m_MM_comesBack_b40 (n : Nat) (x1 : Int32) (M0 : SMT) (Na : SNA) (z : Int32 × Int32 × SNH) : Option (Nat × Int32 × Int32 × SNH) :=
  if z.1 ≤ 0 then
    some (2, z.1, z.2.1, z.2.2)
  else
    o_nm (z.1 + (-1:Int32)) fun x2_48 =>
    o_gd (o_in x2_48 2000) <|
    o_nm ((NH_route z.2.2) x2_48.toNatClampNeg) fun x4_53 =>
    if z.2.1 = 0 then
      if x4_53 = x1 then
        some (1, x2_48, z.2.1, z.2.2)
      else
        m_MM_comesBack_j67 n x1 x2_48 z.2.1 x4_53 M0 Na z.2.2
    else
      m_MM_comesBack_j67 n x1 x2_48 z.2.1 x4_53 M0 Na z.2.2
def m_MM_comesBack (n : Nat) (x1 : Int32) (M0 : SMT) (Na : SNA) (Nh : SNH) : Option (Int32 × SNH) :=
  o_bd (o_lp n (m_MM_comesBack_b2 n x1 M0 Na) ((0:Int32), Nh)) fun q1 =>
  o_nm ((0:Int32) + (1:Int32)) fun x2_33 =>
  o_gd (o_in (0:Int32) 2000) <|
  o_bd (o_lp n (m_MM_comesBack_b40 n x1 M0 Na) (x2_33, (1:Int32), (NH_mk (NH_path q1.2.2) (upd (NH_route q1.2.2) (0:Int32).toNatClampNeg x1) (NH_seen1 q1.2.2) (NH_pathSize q1.2.2) (NH_octetRow q1.2.2) (NH_partRow q1.2.2)))) fun q7 =>
  if q7.1 = 1 then
    some ((1:Int32), q7.2.2.2)
  else
  some ((0:Int32), q7.2.2.2)
def m_MM_check_b42 (n : Nat) (M0 : SMT) (Ni : SNI) (Np : SNP) (No : SNO) (Nf : SNF) (Nh : SNH) (rt : Nat) (z : Int32 × SNA) : Option (Nat × Int32 × SNA) :=
  if (1000:Int32) ≤ z.1 then
    some (1, z.1, z.2)
  else
    o_gd (o_in z.1 1000) <|
    o_gd (o_in z.1 1000) <|
    o_gd (o_in z.1 1000) <|
    o_nm (z.1 + (1:Int32)) fun x1_70 =>
    some (0, x1_70, (NA_mk (NA_anchors z.2) (upd (NA_key z.2) z.1.toNatClampNeg (-1:Int32)) (upd (NA_target z.2) z.1.toNatClampNeg (-1:Int32)) (NA_anchorValue z.2) (NA_anchorSchema z.2) (upd (NA_isSchema z.2) z.1.toNatClampNeg (vp_nar .boolean (0:Int32)))))
def m_MM_check_j231 (n : Nat) (y1 : Int32) (M0 : SMT) (Ni : SNI) (Np : SNP) (No : SNO) (Nf : SNF) (Na : SNA) (Nh : SNH) (rt : Nat) : Option (Int32 × SNI × SNP × SNO × SNF × SNA × SNH × Nat) :=
  o_gd (o_zb y1) <|
  if (NF_faultKind Nf) = 0 then
    some ((NF_faultKind Nf), Ni, Np, No, (NF_mk y1 (NF_faultKind Nf) (NF_faultValue Nf) (-1:Int32)), Na, Nh, rt)
  else
    some ((NF_faultKind Nf), Ni, Np, No, (NF_mk y1 (NF_faultKind Nf) (NF_faultValue Nf) (NF_faultValue Nf)), Na, Nh, rt)
def m_MM_check_j218 (n : Nat) (M0 : SMT) (Ni : SNI) (Np : SNP) (No : SNO) (Nf : SNF) (Na : SNA) (Nh : SNH) (rt : Nat) : Option (Int32 × SNI × SNP × SNO × SNF × SNA × SNH × Nat) :=
  if (NF_faultKind Nf) = 0 then
    m_MM_check_j231 n (1:Int32) M0 Ni Np No Nf Na Nh rt
  else
    m_MM_check_j231 n (0:Int32) M0 Ni Np No Nf Na Nh rt
def m_MM_check_b170 (n : Nat) (M0 : SMT) (Ni : SNI) (Np : SNP) (No : SNO) (Na : SNA) (rt : Nat) (z : Int32 × SNF × SNH) : Option (Nat × Int32 × SNF × SNH) :=
  if (MT_values M0) ≤ z.1 then
    some (1, z.1, z.2.1, z.2.2)
  else
    if (NF_faultKind z.2.1) = 0 then
      o_gd (o_in z.1 1000) <|
      if ((NA_isSchema Na) z.1.toNatClampNeg) = 0 then
        o_nm (z.1 + (1:Int32)) fun x1_212 =>
        some (0, x1_212, z.2.1, z.2.2)
      else
        o_bd (m_MM_comesBack n z.1 M0 Na z.2.2) fun q4 =>
        if q4.1 = 0 then
          o_nm (z.1 + (1:Int32)) fun x1_212 =>
          some (0, x1_212, z.2.1, q4.2)
        else
          o_bd (m_MM_fault (6:Int32) z.1 z.2.1) fun q5 =>
          o_nm (z.1 + (1:Int32)) fun x1_212 =>
          some (0, x1_212, q5, q4.2)
    else
      some (1, z.1, z.2.1, z.2.2)
def m_MM_check_j161 (n : Nat) (M0 : SMT) (Ni : SNI) (Np : SNP) (No : SNO) (Nf : SNF) (Na : SNA) (Nh : SNH) (rt : Nat) : Option (Int32 × SNI × SNP × SNO × SNF × SNA × SNH × Nat) :=
  if (NF_faultKind Nf) = 0 then
    o_bd (o_lp n (m_MM_check_b170 n M0 Ni Np No Na rt) ((0:Int32), Nf, Nh)) fun q6 =>
    m_MM_check_j218 n M0 Ni Np No q6.2.2.1 Na q6.2.2.2 rt
  else
    m_MM_check_j218 n M0 Ni Np No Nf Na Nh rt
def m_MM_check_b90 (n : Nat) (M0 : SMT) (Ni : SNI) (Np : SNP) (No : SNO) (rt : Nat) (z : Int32 × SNF × SNA × SNH) : Option (Nat × Int32 × SNF × SNA × SNH) :=
  if (MT_values M0) ≤ z.1 then
    some (1, z.1, z.2.1, z.2.2.1, z.2.2.2)
  else
    o_gd (o_in z.1 1000) <|
    if ((NA_key z.2.2.1) z.1.toNatClampNeg) = (32:Int32) then
      o_gd (o_in z.1 1000) <|
      o_gd (o_in ((MT_parent M0) z.1.toNatClampNeg) 1000) <|
      if ((NA_isSchema z.2.2.1) ((MT_parent M0) z.1.toNatClampNeg).toNatClampNeg) = 0 then
        o_nm (z.1 + (1:Int32)) fun x1_155 =>
        some (0, x1_155, z.2.1, z.2.2.1, z.2.2.2)
      else
        o_bd (m_MM_leads n z.1 M0 z.2.2.1 z.2.2.2) fun q7 =>
        o_gd (o_in z.1 1000) <|
        o_gd (o_in z.1 1000) <|
        if 0 ≤ ((upd (NA_target z.2.2.1) z.1.toNatClampNeg q7.1) z.1.toNatClampNeg) then
          o_nm (z.1 + (1:Int32)) fun x1_155 =>
          some (0, x1_155, z.2.1, (NA_mk (NA_anchors z.2.2.1) (NA_key z.2.2.1) (upd (NA_target z.2.2.1) z.1.toNatClampNeg q7.1) (NA_anchorValue z.2.2.1) (NA_anchorSchema z.2.2.1) (NA_isSchema z.2.2.1)), q7.2)
        else
          o_bd (m_MM_fault (5:Int32) z.1 z.2.1) fun q8 =>
          o_nm (z.1 + (1:Int32)) fun x1_155 =>
          some (0, x1_155, q8, (NA_mk (NA_anchors z.2.2.1) (NA_key z.2.2.1) (upd (NA_target z.2.2.1) z.1.toNatClampNeg q7.1) (NA_anchorValue z.2.2.1) (NA_anchorSchema z.2.2.1) (NA_isSchema z.2.2.1)), q7.2)
    else
      o_nm (z.1 + (1:Int32)) fun x1_155 =>
      some (0, x1_155, z.2.1, z.2.2.1, z.2.2.2)
def m_MM_check_j21 (n : Nat) (y1 : Int32) (M0 : SMT) (Ni : SNI) (Np : SNP) (No : SNO) (Nf : SNF) (Na : SNA) (Nh : SNH) (rt : Nat) : Option (Int32 × SNI × SNP × SNO × SNF × SNA × SNH × Nat) :=
  o_bd (m_MM_fails y1 (1:Int32) Ni) fun q1 =>
  if q1.1 = 0 then
    o_bd (o_lp n (m_MM_check_b42 n M0 q1.2 Np No (NF_mk (NF_checked Nf) (0:Int32) (NF_faultValue Nf) (NF_latestFault Nf)) Nh rt) ((0:Int32), (NA_mk (0:Int32) (NA_key Na) (NA_target Na) (NA_anchorValue Na) (NA_anchorSchema Na) (NA_isSchema Na)))) fun q2 =>
    o_bd (m_MM_visit n 503 (0:Int32) M0 Np No (NF_mk (NF_checked Nf) (0:Int32) (NF_faultValue Nf) (NF_latestFault Nf)) q2.2.2 rt) fun q3 =>
    if (NF_faultKind q3.2.2.1) = 0 then
      o_bd (o_lp n (m_MM_check_b90 n M0 q1.2 q3.1 q3.2.1 q3.2.2.2.2) ((0:Int32), q3.2.2.1, q3.2.2.2.1, Nh)) fun q9 =>
      m_MM_check_j161 n M0 q1.2 q3.1 q3.2.1 q9.2.2.1 q9.2.2.2.1 q9.2.2.2.2 q3.2.2.2.2
    else
      m_MM_check_j161 n M0 q1.2 q3.1 q3.2.1 q3.2.2.1 q3.2.2.2.1 Nh q3.2.2.2.2
  else
    some ((0:Int32), q1.2, Np, No, Nf, Na, Nh, rt)
def m_MM_check (n : Nat) (M0 : SMT) (Ni : SNI) (Np : SNP) (No : SNO) (Nf : SNF) (Na : SNA) (Nh : SNH) (rt : Nat) : Option (Int32 × SNI × SNP × SNO × SNF × SNA × SNH × Nat) :=
  if (MT_values M0) = 0 then
    m_MM_check_j21 n (1:Int32) M0 (NI_mk (0:Int32) (NI_fed Ni) (NI_wrong Ni) (NI_octets Ni)) Np No Nf Na Nh rt
  else
    m_MM_check_j21 n (0:Int32) M0 (NI_mk (0:Int32) (NI_fed Ni) (NI_wrong Ni) (NI_octets Ni)) Np No Nf Na Nh rt
def m_MM_fault_1 (Ni : SNI) (Nf : SNF) : Option (Int32 × SNI) :=
  some ((NF_latestFault Nf), (NI_mk (0:Int32) (NI_fed Ni) (NI_wrong Ni) (NI_octets Ni)))
def m_MM_pair (x1 : Int32) (x2 : Int32) (Nq : SNQ) : Option (SNQ) :=
  if (NQ_pairs Nq) = (300:Int32) then
    some Nq
  else
    o_gd (o_in (NQ_pairs Nq) 300) <|
    o_gd (o_in (NQ_pairs Nq) 300) <|
    some (NQ_mk (upd (NQ_pairValue Nq) (NQ_pairs Nq).toNatClampNeg x1) (upd (NQ_pairKey Nq) (NQ_pairs Nq).toNatClampNeg x2) ((NQ_pairs Nq) + (1:Int32)))
def m_MT_member_b7 (n : Nat) (x2 : Nat) (a0 : SMT) (z : Int32) : Option (Nat × Int32) :=
  if z < 0 then
    some (2, z)
  else
    o_gd (o_in z 1000) <|
    o_bd (m_MT_is n ((MT_name a0) z.toNatClampNeg) x2 a0) fun q1 =>
    if q1 = 0 then
      o_gd (o_in z 1000) <|
      o_nm ((MT_next a0) z.toNatClampNeg) fun x3_33 =>
      some (0, x3_33)
    else
      some (1, z)
def m_MT_member (n : Nat) (x1 : Int32) (x2 : Nat) (a0 : SMT) : Option (Int32) :=
  o_gd (o_in x1 1000) <|
  o_nm ((MT_first a0) x1.toNatClampNeg) fun x3_6 =>
  o_bd (o_lp n (m_MT_member_b7 n x2 a0) (x3_6)) fun q2 =>
  if q2.1 = 1 then
    some q2.2
  else
  some (-1:Int32)
def m_MT_member_1_b8 (n : Nat) (x3 : Int32) (a0 : SMT) (a2 : SMT) (z : Int32) : Option (Nat × Int32) :=
  if z < 0 then
    some (2, z)
  else
    o_gd (o_in z 1000) <|
    o_bd (m_MT_same n x3 ((MT_name a0) z.toNatClampNeg) a2 a0) fun q1 =>
    if q1 = 0 then
      o_gd (o_in z 1000) <|
      o_nm ((MT_next a0) z.toNatClampNeg) fun x4_39 =>
      some (0, x4_39)
    else
      some (1, z)
def m_MT_member_1 (n : Nat) (x1 : Int32) (x3 : Int32) (a0 : SMT) (a2 : SMT) : Option (Int32) :=
  o_gd (o_in x1 1000) <|
  o_nm ((MT_first a0) x1.toNatClampNeg) fun x4_6 =>
  o_bd (o_lp n (m_MT_member_1_b8 n x3 a0 a2) (x4_6)) fun q2 =>
  if q2.1 = 1 then
    some q2.2
  else
  some (-1:Int32)
def m_MT_reaches_b14 (n : Nat) (x2 : Int32) (x3 : Int32) (a0 : SMT) (a1 : SMT) (z : Int32 × Int32) : Option (Nat × Int32 × Int32) :=
  if x3 ≤ z.1 then
    some (2, z.1, (0:Int32))
  else
    o_gd (o_in x2 1000) <|
    o_gd (o_in (((MT_from a1) x2.toNatClampNeg) + z.1) 8192) <|
    o_nm ((MT_digits a1) (((MT_from a1) x2.toNatClampNeg) + z.1).toNatClampNeg) fun x5_34 =>
    o_gd (o_in (z.1 + (1:Int32)) 80) <|
    if ((MT_left a0) (z.1 + (1:Int32)).toNatClampNeg) = x5_34 then
      o_nm (z.1 + (1:Int32)) fun x4_70 =>
      some (0, x4_70, x5_34)
    else
      some (1, z.1, x5_34)
def m_MT_reaches (n : Nat) (x2 : Int32) (x3 : Int32) (a0 : SMT) (a1 : SMT) : Option (Int32) :=
  o_gd (o_in (0:Int32) 80) <|
  if ((MT_left a0) (0:Int32).toNatClampNeg) ≤ 0 then
    o_bd (o_lp n (m_MT_reaches_b14 n x2 x3 a0 a1) ((0:Int32), (0:Int32))) fun q1 =>
    if q1.1 = 1 then
      o_gd (o_in (q1.2.1 + (1:Int32)) 80) <|
      if ((MT_left a0) (q1.2.1 + (1:Int32)).toNatClampNeg) ≤ q1.2.2 then
        some (0:Int32)
      else
        some (1:Int32)
    else
    some (1:Int32)
  else
    some (1:Int32)
def m_MT_isMultiple_b44 (n : Nat) (x1 : Int32) (x3 : Int32) (x4 : Int32) (x5 : Int32) (a2 : SMT) (z : Int32 × SMT) : Option (Nat × Int32 × SMT) :=
  if x5 < z.1 then
    some (1, z.1, z.2)
  else
    o_gd (o_in z.1 80) <|
    o_nm (z.1 + (1:Int32)) fun x6_59 =>
    some (0, x6_59, (MT_mk (MT_text z.2) (MT_kind z.2) (MT_place z.2) (MT_many z.2) (MT_parent z.2) (MT_power z.2) (MT_first z.2) (MT_next z.2) (MT_name z.2) (MT_from z.2) (MT_characters z.2) (MT_digits z.2) (MT_minus z.2) (MT_values z.2) (MT_letters z.2) (MT_at z.2) (MT_wrong z.2) (MT_used z.2) (MT_written z.2) (upd (MT_left z.2) z.1.toNatClampNeg (0:Int32))))
def m_MT_isMultiple_b85 (n : Nat) (x1 : Int32) (x3 : Int32) (x4 : Int32) (x5 : Int32) (x6 : Int32) (a2 : SMT) (z : Int32 × SMT) : Option (Nat × Int32 × SMT) :=
  if x5 ≤ z.1 then
    some (1, z.1, z.2)
  else
    o_gd (o_in (z.1 + (1:Int32)) 80) <|
    o_gd (o_in z.1 80) <|
    o_nm (z.1 + (1:Int32)) fun x7_108 =>
    some (0, x7_108, (MT_mk (MT_text z.2) (MT_kind z.2) (MT_place z.2) (MT_many z.2) (MT_parent z.2) (MT_power z.2) (MT_first z.2) (MT_next z.2) (MT_name z.2) (MT_from z.2) (MT_characters z.2) (MT_digits z.2) (MT_minus z.2) (MT_values z.2) (MT_letters z.2) (MT_at z.2) (MT_wrong z.2) (MT_used z.2) (MT_written z.2) (upd (MT_left z.2) z.1.toNatClampNeg ((MT_left z.2) (z.1 + (1:Int32)).toNatClampNeg))))
def m_MT_isMultiple_j221 (n : Nat) (x1 : Int32) (x3 : Int32) (x4 : Int32) (x5 : Int32) (x6 : Int32) (x8 : Int32) (x9 : Int32) (y0 : Int32) (a0 : SMT) (a2 : SMT) : Option (Nat × Int32 × Int32 × SMT) :=
  o_gd (o_in x8 80) <|
  o_nm (x8 + (-1:Int32)) fun x8_238 =>
  some (0, y0, x8_238, (MT_mk (MT_text a0) (MT_kind a0) (MT_place a0) (MT_many a0) (MT_parent a0) (MT_power a0) (MT_first a0) (MT_next a0) (MT_name a0) (MT_from a0) (MT_characters a0) (MT_digits a0) (MT_minus a0) (MT_values a0) (MT_letters a0) (MT_at a0) (MT_wrong a0) (MT_used a0) (MT_written a0) (upd (MT_left a0) x8.toNatClampNeg (x9 + ((10:Int32) * y0)))))
def m_MT_isMultiple_j205 (n : Nat) (x1 : Int32) (x3 : Int32) (x4 : Int32) (x5 : Int32) (x6 : Int32) (x7 : Int32) (x8 : Int32) (y0 : Int32) (y1 : Int32) (a0 : SMT) (a2 : SMT) : Option (Nat × Int32 × Int32 × SMT) :=
  o_nm ((y0 - y1) - x7) fun x9_209 =>
  if 0 ≤ x9_209 then
    m_MT_isMultiple_j221 n x1 x3 x4 x5 x6 x8 x9_209 (0:Int32) a0 a2
  else
    m_MT_isMultiple_j221 n x1 x3 x4 x5 x6 x8 x9_209 (1:Int32) a0 a2
def m_MT_isMultiple_b168 (n : Nat) (x1 : Int32) (x3 : Int32) (x4 : Int32) (x5 : Int32) (x6 : Int32) (a2 : SMT) (z : Int32 × Int32 × SMT) : Option (Nat × Int32 × Int32 × SMT) :=
  if z.2.1 < 0 then
    some (1, z.1, z.2.1, z.2.2)
  else
    o_gd (o_in z.2.1 80) <|
    if z.2.1 ≤ 0 then
      m_MT_isMultiple_j205 n x1 x3 x4 x5 x6 z.1 z.2.1 ((MT_left z.2.2) z.2.1.toNatClampNeg) (0:Int32) z.2.2 a2
    else
      o_gd (o_in x3 1000) <|
      o_gd (o_in ((((MT_from a2) x3.toNatClampNeg) + z.2.1) - (1:Int32)) 8192) <|
      m_MT_isMultiple_j205 n x1 x3 x4 x5 x6 z.1 z.2.1 ((MT_left z.2.2) z.2.1.toNatClampNeg) ((MT_digits a2) ((((MT_from a2) x3.toNatClampNeg) + z.2.1) - (1:Int32)).toNatClampNeg) z.2.2 a2
def m_MT_isMultiple_b150 (n : Nat) (x1 : Int32) (x3 : Int32) (x4 : Int32) (x5 : Int32) (x6 : Int32) (a2 : SMT) (z : SMT) : Option (Nat × SMT) :=
  o_bd (m_MT_reaches n x3 x5 z a2) fun q3 =>
  if q3 = 0 then
    some (1, z)
  else
    o_bd (o_lp n (m_MT_isMultiple_b168 n x1 x3 x4 x5 x6 a2) ((0:Int32), x5, z)) fun q4 =>
    some (0, q4.2.2.2)
def m_MT_isMultiple_b68 (n : Nat) (x1 : Int32) (x3 : Int32) (x4 : Int32) (x5 : Int32) (a2 : SMT) (z : Int32 × SMT) : Option (Nat × Int32 × SMT) :=
  o_gd (o_in x1 1000) <|
  if (((MT_many z.2) x1.toNatClampNeg) + x4) ≤ z.1 then
    some (1, z.1, z.2)
  else
    o_bd (o_lp n (m_MT_isMultiple_b85 n x1 x3 x4 x5 z.1 a2) ((0:Int32), z.2)) fun q2 =>
    o_gd (o_in x1 1000) <|
    if ((MT_many q2.2.2) x1.toNatClampNeg) ≤ z.1 then
      o_gd (o_in x5 80) <|
      o_bd (o_lp n (m_MT_isMultiple_b150 n x1 x3 x4 x5 z.1 a2) ((MT_mk (MT_text q2.2.2) (MT_kind q2.2.2) (MT_place q2.2.2) (MT_many q2.2.2) (MT_parent q2.2.2) (MT_power q2.2.2) (MT_first q2.2.2) (MT_next q2.2.2) (MT_name q2.2.2) (MT_from q2.2.2) (MT_characters q2.2.2) (MT_digits q2.2.2) (MT_minus q2.2.2) (MT_values q2.2.2) (MT_letters q2.2.2) (MT_at q2.2.2) (MT_wrong q2.2.2) (MT_used q2.2.2) (MT_written q2.2.2) (upd (MT_left q2.2.2) x5.toNatClampNeg (0:Int32))))) fun q5 =>
      o_nm (z.1 + (1:Int32)) fun x6_247 =>
      some (0, x6_247, q5.2)
    else
      o_gd (o_in x1 1000) <|
      o_gd (o_in (((MT_from q2.2.2) x1.toNatClampNeg) + z.1) 8192) <|
      o_gd (o_in x5 80) <|
      o_bd (o_lp n (m_MT_isMultiple_b150 n x1 x3 x4 x5 z.1 a2) ((MT_mk (MT_text q2.2.2) (MT_kind q2.2.2) (MT_place q2.2.2) (MT_many q2.2.2) (MT_parent q2.2.2) (MT_power q2.2.2) (MT_first q2.2.2) (MT_next q2.2.2) (MT_name q2.2.2) (MT_from q2.2.2) (MT_characters q2.2.2) (MT_digits q2.2.2) (MT_minus q2.2.2) (MT_values q2.2.2) (MT_letters q2.2.2) (MT_at q2.2.2) (MT_wrong q2.2.2) (MT_used q2.2.2) (MT_written q2.2.2) (upd (MT_left q2.2.2) x5.toNatClampNeg ((MT_digits q2.2.2) (((MT_from q2.2.2) x1.toNatClampNeg) + z.1).toNatClampNeg))))) fun q6 =>
      o_nm (z.1 + (1:Int32)) fun x6_247 =>
      some (0, x6_247, q6.2)
def m_MT_isMultiple_b256 (n : Nat) (x5 : Int32) (a0 : SMT) (a2 : SMT) (z : Int32) : Option (Nat × Int32) :=
  if x5 < z then
    some (2, z)
  else
    o_gd (o_in z 80) <|
    if ((MT_left a0) z.toNatClampNeg) = 0 then
      o_nm (z + (1:Int32)) fun x6_275 =>
      some (0, x6_275)
    else
      some (1, z)
def m_MT_isMultiple (n : Nat) (x1 : Int32) (x3 : Int32) (a0 : SMT) (a2 : SMT) : Option (Int32 × SMT) :=
  o_gd (o_in x1 1000) <|
  if ((MT_many a0) x1.toNatClampNeg) = 0 then
    some ((1:Int32), a0)
  else
    o_gd (o_in x1 1000) <|
    o_gd (o_in x3 1000) <|
    o_nm (((MT_power a0) x1.toNatClampNeg) - ((MT_power a2) x3.toNatClampNeg)) fun x4_24 =>
    o_gd (o_in x3 1000) <|
    o_nm ((MT_many a2) x3.toNatClampNeg) fun x5_32 =>
    if 0 ≤ x4_24 then
      o_bd (o_lp n (m_MT_isMultiple_b44 n x1 x3 x4_24 x5_32 a2) ((0:Int32), a0)) fun q1 =>
      o_bd (o_lp n (m_MT_isMultiple_b68 n x1 x3 x4_24 x5_32 a2) ((0:Int32), q1.2.2)) fun q7 =>
      o_bd (o_lp n (m_MT_isMultiple_b256 n x5_32 q7.2.2 a2) ((0:Int32))) fun q8 =>
      if q8.1 = 1 then
        some ((0:Int32), q7.2.2)
      else
      some ((1:Int32), q7.2.2)
    else
      some ((0:Int32), a0)
def m_MT_compare_j70 (n : Nat) (x4 : Int32) (x5 : Int32) (a0 : SMT) (a2 : SMT) : Option (Int32) :=
  if x5 ≤ x4 then
    if x4 ≤ x5 then
      some (0:Int32)
    else
      some (1:Int32)
  else
    some (-1:Int32)
def m_MT_compare_j232 (n : Nat) (x1 : Int32) (x3 : Int32) (x4 : Int32) (x8 : Int32) (x9 : Int32) (y0 : Int32) (a0 : SMT) (a2 : SMT) : Option (Nat × Int32 × Int32 × Int32) :=
  if x9 = y0 then
    o_nm (x8 + (1:Int32)) fun x8_257 =>
    some (0, x8_257, x9, y0)
  else
    some (1, x8, x9, y0)
def m_MT_compare_j201 (n : Nat) (x1 : Int32) (x3 : Int32) (x4 : Int32) (x8 : Int32) (y0 : Int32) (a0 : SMT) (a2 : SMT) : Option (Nat × Int32 × Int32 × Int32) :=
  o_gd (o_in x3 1000) <|
  if ((MT_many a2) x3.toNatClampNeg) ≤ x8 then
    m_MT_compare_j232 n x1 x3 x4 x8 y0 (0:Int32) a0 a2
  else
    o_gd (o_in x3 1000) <|
    o_gd (o_in (((MT_from a2) x3.toNatClampNeg) + x8) 8192) <|
    m_MT_compare_j232 n x1 x3 x4 x8 y0 ((MT_digits a2) (((MT_from a2) x3.toNatClampNeg) + x8).toNatClampNeg) a0 a2
def m_MT_compare_j172 (n : Nat) (x1 : Int32) (x3 : Int32) (x4 : Int32) (x8 : Int32) (a0 : SMT) (a2 : SMT) : Option (Nat × Int32 × Int32 × Int32) :=
  o_gd (o_in x1 1000) <|
  if ((MT_many a0) x1.toNatClampNeg) ≤ x8 then
    m_MT_compare_j201 n x1 x3 x4 x8 (0:Int32) a0 a2
  else
    o_gd (o_in x1 1000) <|
    o_gd (o_in (((MT_from a0) x1.toNatClampNeg) + x8) 8192) <|
    m_MT_compare_j201 n x1 x3 x4 x8 ((MT_digits a0) (((MT_from a0) x1.toNatClampNeg) + x8).toNatClampNeg) a0 a2
def m_MT_compare_b150 (n : Nat) (x1 : Int32) (x3 : Int32) (x4 : Int32) (a0 : SMT) (a2 : SMT) (z : Int32 × Int32 × Int32) : Option (Nat × Int32 × Int32 × Int32) :=
  o_gd (o_in x1 1000) <|
  if z.1 < ((MT_many a0) x1.toNatClampNeg) then
    m_MT_compare_j172 n x1 x3 x4 z.1 a0 a2
  else
    o_gd (o_in x3 1000) <|
    if ((MT_many a2) x3.toNatClampNeg) ≤ z.1 then
      some (2, z.1, (0:Int32), (0:Int32))
    else
      m_MT_compare_j172 n x1 x3 x4 z.1 a0 a2
def m_MT_compare_j56 (n : Nat) (x1 : Int32) (x3 : Int32) (x4 : Int32) (y0 : Int32) (a0 : SMT) (a2 : SMT) : Option (Int32) :=
  if x4 = y0 then
    if x4 = 0 then
      m_MT_compare_j70 n x4 y0 a0 a2
    else
      o_gd (o_in x1 1000) <|
      o_gd (o_in x1 1000) <|
      o_nm (((MT_many a0) x1.toNatClampNeg) + ((MT_power a0) x1.toNatClampNeg)) fun x6_107 =>
      o_gd (o_in x3 1000) <|
      o_gd (o_in x3 1000) <|
      o_nm (((MT_many a2) x3.toNatClampNeg) + ((MT_power a2) x3.toNatClampNeg)) fun x7_122 =>
      if x6_107 = x7_122 then
        o_bd (o_lp n (m_MT_compare_b150 n x1 x3 x4 a0 a2) ((0:Int32), (0:Int32), (0:Int32))) fun q1 =>
        if q1.1 = 1 then
          if q1.2.2.2 ≤ q1.2.2.1 then
            some x4
          else
            some (-x4)
        else
        some (0:Int32)
      else
        if x7_122 ≤ x6_107 then
          some x4
        else
          some (-x4)
  else
    m_MT_compare_j70 n x4 y0 a0 a2
def m_MT_compare_j27 (n : Nat) (x1 : Int32) (x3 : Int32) (y0 : Int32) (a0 : SMT) (a2 : SMT) : Option (Int32) :=
  o_gd (o_in x3 1000) <|
  if ((MT_many a2) x3.toNatClampNeg) = 0 then
    m_MT_compare_j56 n x1 x3 y0 (0:Int32) a0 a2
  else
    o_gd (o_in x3 1000) <|
    if ((MT_minus a2) x3.toNatClampNeg) = 0 then
      m_MT_compare_j56 n x1 x3 y0 (1:Int32) a0 a2
    else
      m_MT_compare_j56 n x1 x3 y0 (-1:Int32) a0 a2
def m_MT_compare (n : Nat) (x1 : Int32) (x3 : Int32) (a0 : SMT) (a2 : SMT) : Option (Int32) :=
  o_gd (o_in x1 1000) <|
  if ((MT_many a0) x1.toNatClampNeg) = 0 then
    m_MT_compare_j27 n x1 x3 (0:Int32) a0 a2
  else
    o_gd (o_in x1 1000) <|
    if ((MT_minus a0) x1.toNatClampNeg) = 0 then
      m_MT_compare_j27 n x1 x3 (1:Int32) a0 a2
    else
      m_MT_compare_j27 n x1 x3 (-1:Int32) a0 a2
def m_MM_number_1 (n : Nat) (x1 : Int32) (x2 : Int32) (x3 : Int32) (M0 : SMT) (M1 : SMT) : Option (Int32 × SMT) :=
  if x1 = (22:Int32) then
    o_bd (m_MT_isMultiple n x3 x2 M1 M0) fun q2 =>
    o_gd (o_zb q2.1) <|
    some (q2.1, q2.2)
  else
    o_bd (m_MT_compare n x3 x2 M1 M0) fun q1 =>
    if x1 = (18:Int32) then
      if 0 < q1 then
        some ((0:Int32), M1)
      else
        some ((1:Int32), M1)
    else
      if x1 = (19:Int32) then
        if 0 ≤ q1 then
          some ((0:Int32), M1)
        else
          some ((1:Int32), M1)
      else
        if x1 = (20:Int32) then
          if q1 < 0 then
            some ((0:Int32), M1)
          else
            some ((1:Int32), M1)
        else
          if q1 ≤ 0 then
            some ((0:Int32), M1)
          else
            some ((1:Int32), M1)
def m_MM_has (n : Nat) (x1 : Int32) (x2 : Int32) (x3 : Int32) (M0 : SMT) (M1 : SMT) : Option (Int32) :=
  o_gd (o_in x2 1000) <|
  o_nm ((MT_kind M1) x2.toNatClampNeg) fun x4_9 =>
  o_bd (m_MM_typeOf n x1 M0) fun q1 =>
  if q1 = (0:Int32) then
    if x4_9 = 0 then
      some (1:Int32)
    else
      some (0:Int32)
  else
  if q1 = (1:Int32) then
    if x4_9 = (1:Int32) then
      some (1:Int32)
    else
      if x4_9 = (2:Int32) then
        some (1:Int32)
      else
        some (0:Int32)
  else
  if q1 = (2:Int32) then
    if x4_9 = (6:Int32) then
      some (1:Int32)
    else
      some (0:Int32)
  else
  if q1 = (3:Int32) then
    if x4_9 = (5:Int32) then
      some (1:Int32)
    else
      some (0:Int32)
  else
  if q1 = (4:Int32) then
    if x4_9 = (3:Int32) then
      some (1:Int32)
    else
      some (0:Int32)
  else
  if q1 = (5:Int32) then
    if x4_9 = (4:Int32) then
      some (1:Int32)
    else
      some (0:Int32)
  else
  o_bd (m_MT_isWhole x2 M1) fun q2 =>
  if q2 = 0 then
    some (0:Int32)
  else
    if x3 = 0 then
      some (0:Int32)
    else
      some (1:Int32)
def m_MM_isType_b31 (n : Nat) (x2 : Int32) (M0 : SMT) (M1 : SMT) (z : Int32) : Option (Nat × Int32) :=
  if z < 0 then
    some (2, z)
  else
    o_bd (m_MM_has n z x2 (1:Int32) M0 M1) fun q1 =>
    if q1 = 0 then
      o_gd (o_in z 1000) <|
      o_nm ((MT_next M0) z.toNatClampNeg) fun x3_56 =>
      some (0, x3_56)
    else
      some (1, z)
def m_MM_isType (n : Nat) (x1 : Int32) (x2 : Int32) (M0 : SMT) (M1 : SMT) : Option (Int32) :=
  o_gd (o_in x1 1000) <|
  if ((MT_kind M0) x1.toNatClampNeg) = (5:Int32) then
    o_gd (o_in x1 1000) <|
    o_nm ((MT_first M0) x1.toNatClampNeg) fun x3_30 =>
    o_bd (o_lp n (m_MM_isType_b31 n x2 M0 M1) (x3_30)) fun q2 =>
    if q2.1 = 1 then
      some (1:Int32)
    else
    some (0:Int32)
  else
    o_bd (m_MM_has n x1 x2 (1:Int32) M0 M1) fun q3 =>
    o_gd (o_zb q3) <|
    some q3
def m_MT_alike_b166 (n : Nat) (rec : Int32 → Int32 → SMT → SMT → Option (Int32)) (x3 : Int32) (a0 : SMT) (a2 : SMT) (z : Int32) : Option (Nat × Int32) :=
  if z < 0 then
    some (2, z)
  else
    o_gd (o_in z 1000) <|
    o_bd (m_MT_member_1 n x3 ((MT_name a0) z.toNatClampNeg) a2 a0) fun q1 =>
    if q1 < 0 then
      some (1, z)
    else
      o_bd (rec z q1 a0 a2) fun q2 =>
      if q2 = 0 then
        some (1, z)
      else
        o_gd (o_in z 1000) <|
        o_nm ((MT_next a0) z.toNatClampNeg) fun x4_212 =>
        some (0, x4_212)
def m_MT_alike_b116 (n : Nat) (rec : Int32 → Int32 → SMT → SMT → Option (Int32)) (a0 : SMT) (a2 : SMT) (z : Int32 × Int32) : Option (Nat × Int32 × Int32) :=
  if z.2 < 0 then
    some (2, z.1, z.2)
  else
    o_bd (rec z.2 z.1 a0 a2) fun q4 =>
    if q4 = 0 then
      some (1, z.1, z.2)
    else
      o_gd (o_in z.2 1000) <|
      o_nm ((MT_next a0) z.2.toNatClampNeg) fun x5_142 =>
      o_gd (o_in z.1 1000) <|
      o_nm ((MT_next a2) z.1.toNatClampNeg) fun x4_151 =>
      some (0, x4_151, x5_142)
def m_MT_alike_F (n : Nat) (rec : Int32 → Int32 → SMT → SMT → Option (Int32)) (x1 : Int32) (x3 : Int32) (a0 : SMT) (a2 : SMT) : Option (Int32) :=
  o_gd (o_in x1 1000) <|
  o_gd (o_in x3 1000) <|
  if ((MT_kind a0) x1.toNatClampNeg) = ((MT_kind a2) x3.toNatClampNeg) then
    o_gd (o_in x1 1000) <|
    if ((MT_kind a0) x1.toNatClampNeg) = (3:Int32) then
      o_bd (m_MT_compare n x1 x3 a0 a2) fun q7 =>
      if q7 = 0 then
        some (1:Int32)
      else
        some (0:Int32)
    else
      o_gd (o_in x1 1000) <|
      if ((MT_kind a0) x1.toNatClampNeg) = (4:Int32) then
        o_bd (m_MT_same n x1 x3 a0 a2) fun q6 =>
        o_gd (o_zb q6) <|
        some q6
      else
        o_gd (o_in x1 1000) <|
        if (3:Int32) ≤ ((MT_kind a0) x1.toNatClampNeg) then
          o_gd (o_in x1 1000) <|
          o_gd (o_in x3 1000) <|
          if ((MT_many a0) x1.toNatClampNeg) = ((MT_many a2) x3.toNatClampNeg) then
            o_gd (o_in x1 1000) <|
            if ((MT_kind a0) x1.toNatClampNeg) = (5:Int32) then
              o_gd (o_in x3 1000) <|
              o_nm ((MT_first a2) x3.toNatClampNeg) fun x4_106 =>
              o_gd (o_in x1 1000) <|
              o_nm ((MT_first a0) x1.toNatClampNeg) fun x5_114 =>
              o_bd (o_lp n (m_MT_alike_b116 n rec a0 a2) (x4_106, x5_114)) fun q5 =>
              if q5.1 = 1 then
                some (0:Int32)
              else
              some (1:Int32)
            else
              o_gd (o_in x1 1000) <|
              o_nm ((MT_first a0) x1.toNatClampNeg) fun x4_164 =>
              o_bd (o_lp n (m_MT_alike_b166 n rec x3 a0 a2) (x4_164)) fun q3 =>
              if q3.1 = 1 then
                some (0:Int32)
              else
              some (1:Int32)
          else
            some (0:Int32)
        else
          some (1:Int32)
  else
    some (0:Int32)
def m_MT_alike (n : Nat) : Nat → Int32 → Int32 → SMT → SMT → Option (Int32)
  | 0, _, _, _, _ => none
  | d + 1, v0, v1, v2, v3 => m_MT_alike_F n (m_MT_alike n d) v0 v1 v2 v3
def m_MM_requires_b10 (n : Nat) (x2 : Int32) (M0 : SMT) (M1 : SMT) (z : Int32) : Option (Nat × Int32) :=
  if z < 0 then
    some (2, z)
  else
    o_bd (m_MT_member_1 n x2 z M1 M0) fun q1 =>
    if 0 ≤ q1 then
      o_gd (o_in z 1000) <|
      o_nm ((MT_next M0) z.toNatClampNeg) fun x3_41 =>
      some (0, x3_41)
    else
      some (1, z)
def m_MM_requires (n : Nat) (x1 : Int32) (x2 : Int32) (M0 : SMT) (M1 : SMT) : Option (Int32) :=
  o_gd (o_in x1 1000) <|
  o_nm ((MT_first M0) x1.toNatClampNeg) fun x3_9 =>
  o_bd (o_lp n (m_MM_requires_b10 n x2 M0 M1) (x3_9)) fun q2 =>
  if q2.1 = 1 then
    some (0:Int32)
  else
  some (1:Int32)
def m_MM_placeOf_b13 (n : Nat) (x2 : Int32) (M1 : SMT) (z : Int32 × Int32) : Option (Nat × Int32 × Int32) :=
  if z.2 = x2 then
    some (1, z.1, z.2)
  else
    o_nm (z.1 + (1:Int32)) fun x3_19 =>
    o_gd (o_in z.2 1000) <|
    o_nm ((MT_next M1) z.2.toNatClampNeg) fun x4_32 =>
    some (0, x3_19, x4_32)
def m_MM_placeOf (n : Nat) (x1 : Int32) (x2 : Int32) (M1 : SMT) : Option (Int32) :=
  o_gd (o_in x1 1000) <|
  o_nm ((MT_first M1) x1.toNatClampNeg) fun x4_11 =>
  o_bd (o_lp n (m_MM_placeOf_b13 n x2 M1) ((0:Int32), x4_11)) fun q1 =>
  some q1.2.1
def m_MM_isIn_j102 (n : Nat) (x2 : Int32) (x5 : Int32) (M0 : SMT) (M1 : SMT) (Np : SNP) (No : SNO) (Nx : SNX) (rt : Nat) : Option (Nat × Int32 × SNP × SNO × SNX × Nat) :=
  o_gd (o_in x5 1000) <|
  o_nm ((MT_next M0) x5.toNatClampNeg) fun x5_112 =>
  some (0, x5_112, Np, No, Nx, rt)
def m_MM_isIn_b62 (n : Nat) (x2 : Int32) (M0 : SMT) (M1 : SMT) (z : Int32 × SNP × SNO × SNX × Nat) : Option (Nat × Int32 × SNP × SNO × SNX × Nat) :=
  if z.1 < 0 then
    some (2, z.1, z.2.1, z.2.2.1, z.2.2.2.1, z.2.2.2.2)
  else
    o_gd (o_in z.1 1000) <|
    o_bd (m_MM_isPattern n ((MT_name M0) z.1.toNatClampNeg) M0 z.2.1 z.2.2.1) fun q3 =>
    if q3.1 = 0 then
      m_MM_isIn_j102 n x2 z.1 M0 M1 q3.2.1 q3.2.2 z.2.2.2.1 (33)
    else
      o_bd (m_MM_matches n x2 M1 q3.2.1 q3.2.2 z.2.2.2.1) fun q4 =>
      if q4.1 = 0 then
        m_MM_isIn_j102 n x2 z.1 M0 M1 q3.2.1 q3.2.2 q4.2 (33)
      else
        some (1, z.1, q3.2.1, q3.2.2, q4.2, (33))
def m_MM_isIn_j45 (n : Nat) (x2 : Int32) (x4 : Int32) (M0 : SMT) (M1 : SMT) (Np : SNP) (No : SNO) (Nx : SNX) (rt : Nat) : Option (Int32 × SNP × SNO × SNX × Nat) :=
  if x4 < 0 then
    some ((0:Int32), Np, No, Nx, rt)
  else
    o_gd (o_in x4 1000) <|
    o_nm ((MT_first M0) x4.toNatClampNeg) fun x5_60 =>
    o_bd (o_lp n (m_MM_isIn_b62 n x2 M0 M1) (x5_60, Np, No, Nx, rt)) fun q5 =>
    if q5.1 = 1 then
      some ((1:Int32), q5.2.2.1, q5.2.2.2.1, q5.2.2.2.2.1, q5.2.2.2.2.2)
    else
    some ((0:Int32), q5.2.2.1, q5.2.2.2.1, q5.2.2.2.2.1, q5.2.2.2.2.2)
def m_MM_isIn (n : Nat) (x1 : Int32) (x2 : Int32) (M0 : SMT) (M1 : SMT) (Np : SNP) (No : SNO) (Nx : SNX) (rt : Nat) : Option (Int32 × SNP × SNO × SNX × Nat) :=
  o_bd (m_MT_member n x1 40 M0) fun q1 =>
  o_bd (m_MT_member n x1 41 M0) fun q2 =>
  if q1 < 0 then
    m_MM_isIn_j45 n x2 q2 M0 M1 Np No Nx rt
  else
    o_bd (m_MT_member_1 n q1 x2 M0 M1) fun q6 =>
    if q6 < 0 then
      m_MM_isIn_j45 n x2 q2 M0 M1 Np No Nx rt
    else
      some ((1:Int32), Np, No, Nx, rt)
def m_MM_object_j636 (n : Nat) (rec : Int32 → Int32 → SMT → SMT → SNP → SNO → SNX → SNA → SNQ → SNJ → Nat → Option (Int32 × SMT × SNP × SNO × SNX × SNQ × SNJ × Nat)) (x1 : Int32) (x2 : Int32) (x3 : Int32) (x5 : Int64) (x7 : Int32) (x9 : Int32) (x10 : Int32) (M0 : SMT) (M1 : SMT) (Np : SNP) (No : SNO) (Nx : SNX) (Na : SNA) (Nq : SNQ) (Nj : SNJ) (rt : Nat) : Option (Nat × Int64 × Int32 × Int32 × Int32 × SMT × SNP × SNO × SNX × SNQ × SNJ × Nat) :=
  o_gd (o_in x10 1000) <|
  o_nm ((MT_next M1) x10.toNatClampNeg) fun x10_646 =>
  o_nm (x9 + (1:Int32)) fun x9_648 =>
  some (0, x5, x7, x9_648, x10_646, M1, Np, No, Nx, Nq, Nj, rt)
def m_MM_object_j609 (n : Nat) (rec : Int32 → Int32 → SMT → SMT → SNP → SNO → SNX → SNA → SNQ → SNJ → Nat → Option (Int32 × SMT × SNP × SNO × SNX × SNQ × SNJ × Nat)) (x1 : Int32) (x2 : Int32) (x3 : Int32) (x5 : Int64) (x7 : Int32) (x9 : Int32) (x10 : Int32) (M0 : SMT) (M1 : SMT) (Np : SNP) (No : SNO) (Nx : SNX) (Na : SNA) (Nq : SNQ) (Nj : SNJ) (rt : Nat) : Option (Nat × Int64 × Int32 × Int32 × Int32 × SMT × SNP × SNO × SNX × SNQ × SNJ × Nat) :=
  o_bd (rec x2 x10 M0 M1 Np No Nx Na Nq Nj rt) fun q1 =>
  o_nm (x7 &&& q1.1) fun x7_619 =>
  if x1 = (6:Int32) then
    o_nm (x5 ||| ((1:Int64) <<< (x9.toInt64 &&& 63))) fun x5_634 =>
    m_MM_object_j636 n rec x1 x2 x3 x5_634 x7_619 x9 x10 M0 q1.2.1 q1.2.2.1 q1.2.2.2.1 q1.2.2.2.2.1 Na q1.2.2.2.2.2.1 q1.2.2.2.2.2.2.1 q1.2.2.2.2.2.2.2
  else
    m_MM_object_j636 n rec x1 x2 x3 x5 x7_619 x9 x10 M0 q1.2.1 q1.2.2.1 q1.2.2.2.1 q1.2.2.2.2.1 Na q1.2.2.2.2.2.1 q1.2.2.2.2.2.2.1 q1.2.2.2.2.2.2.2
def m_MM_object_b555 (n : Nat) (rec : Int32 → Int32 → SMT → SMT → SNP → SNO → SNX → SNA → SNQ → SNJ → Nat → Option (Int32 × SMT × SNP × SNO × SNX × SNQ × SNJ × Nat)) (x1 : Int32) (x2 : Int32) (x3 : Int32) (M0 : SMT) (Na : SNA) (z : Int64 × Int32 × Int32 × Int32 × SMT × SNP × SNO × SNX × SNQ × SNJ × Nat) : Option (Nat × Int64 × Int32 × Int32 × Int32 × SMT × SNP × SNO × SNX × SNQ × SNJ × Nat) :=
  if z.2.2.2.1 < 0 then
    some (1, z.1, z.2.1, z.2.2.1, z.2.2.2.1, z.2.2.2.2.1, z.2.2.2.2.2.1, z.2.2.2.2.2.2.1, z.2.2.2.2.2.2.2.1, z.2.2.2.2.2.2.2.2.1, z.2.2.2.2.2.2.2.2.2.1, z.2.2.2.2.2.2.2.2.2.2)
  else
    if (NJ_over z.2.2.2.2.2.2.2.2.2.1) = 0 then
      if x1 = (6:Int32) then
        o_gd (o_in z.2.2.2.1 1000) <|
        o_bd (m_MM_isIn n x3 ((MT_name z.2.2.2.2.1) z.2.2.2.1.toNatClampNeg) M0 z.2.2.2.2.1 z.2.2.2.2.2.1 z.2.2.2.2.2.2.1 z.2.2.2.2.2.2.2.1 z.2.2.2.2.2.2.2.2.2.2) fun q2 =>
        if q2.1 = 0 then
          m_MM_object_j609 n rec x1 x2 x3 z.1 z.2.1 z.2.2.1 z.2.2.2.1 M0 z.2.2.2.2.1 q2.2.1 q2.2.2.1 q2.2.2.2.1 Na z.2.2.2.2.2.2.2.2.1 z.2.2.2.2.2.2.2.2.2.1 q2.2.2.2.2
        else
          m_MM_object_j636 n rec x1 x2 x3 z.1 z.2.1 z.2.2.1 z.2.2.2.1 M0 z.2.2.2.2.1 q2.2.1 q2.2.2.1 q2.2.2.2.1 Na z.2.2.2.2.2.2.2.2.1 z.2.2.2.2.2.2.2.2.2.1 q2.2.2.2.2
      else
        if (lg_cmp ((z.1 >>> (z.2.2.1.toInt64 &&& 63)) &&& (1:Int64)) (0:Int64)) = 0 then
          m_MM_object_j609 n rec x1 x2 x3 z.1 z.2.1 z.2.2.1 z.2.2.2.1 M0 z.2.2.2.2.1 z.2.2.2.2.2.1 z.2.2.2.2.2.2.1 z.2.2.2.2.2.2.2.1 Na z.2.2.2.2.2.2.2.2.1 z.2.2.2.2.2.2.2.2.2.1 z.2.2.2.2.2.2.2.2.2.2
        else
          m_MM_object_j636 n rec x1 x2 x3 z.1 z.2.1 z.2.2.1 z.2.2.2.1 M0 z.2.2.2.2.1 z.2.2.2.2.2.1 z.2.2.2.2.2.2.1 z.2.2.2.2.2.2.2.1 Na z.2.2.2.2.2.2.2.2.1 z.2.2.2.2.2.2.2.2.2.1 z.2.2.2.2.2.2.2.2.2.2
    else
      some (1, z.1, z.2.1, z.2.2.1, z.2.2.2.1, z.2.2.2.2.1, z.2.2.2.2.2.1, z.2.2.2.2.2.2.1, z.2.2.2.2.2.2.2.1, z.2.2.2.2.2.2.2.2.1, z.2.2.2.2.2.2.2.2.2.1, z.2.2.2.2.2.2.2.2.2.2)
def m_MM_object_j654 (n : Nat) (rec : Int32 → Int32 → SMT → SMT → SNP → SNO → SNX → SNA → SNQ → SNJ → Nat → Option (Int32 × SMT × SNP × SNO × SNX × SNQ × SNJ × Nat)) (x1 : Int32) (x5 : Int64) (x7 : Int32) (M0 : SMT) (M1 : SMT) (Np : SNP) (No : SNO) (Nx : SNX) (Na : SNA) (Nq : SNQ) (Nj : SNJ) (rt : Nat) : Option (Int32 × SMT × SNP × SNO × SNX × SNQ × SNJ × Nat) :=
  if x1 = (9:Int32) then
    o_gd (o_zb x7) <|
    some (x7, M1, Np, No, Nx, Nq, (NJ_mk (NJ_judged Nj) (NJ_deepest Nj) (NJ_depth Nj) (NJ_over Nj) (-1:Int64)), rt)
  else
    o_gd (o_zb x7) <|
    some (x7, M1, Np, No, Nx, Nq, (NJ_mk (NJ_judged Nj) (NJ_deepest Nj) (NJ_depth Nj) (NJ_over Nj) x5), rt)
def m_MM_object_b680 (n : Nat) (rec : Int32 → Int32 → SMT → SMT → SNP → SNO → SNX → SNA → SNQ → SNJ → Nat → Option (Int32 × SMT × SNP × SNO × SNX × SNQ × SNJ × Nat)) (x2 : Int32) (x5 : Int64) (M0 : SMT) (Na : SNA) (z : Int32 × Int32 × SMT × SNP × SNO × SNX × SNQ × SNJ × Nat) : Option (Nat × Int32 × Int32 × SMT × SNP × SNO × SNX × SNQ × SNJ × Nat) :=
  if z.2.1 < 0 then
    some (1, z.1, z.2.1, z.2.2.1, z.2.2.2.1, z.2.2.2.2.1, z.2.2.2.2.2.1, z.2.2.2.2.2.2.1, z.2.2.2.2.2.2.2.1, z.2.2.2.2.2.2.2.2)
  else
    if (NJ_over z.2.2.2.2.2.2.2.1) = 0 then
      o_gd (o_in z.2.1 1000) <|
      o_bd (rec x2 ((MT_name z.2.2.1) z.2.1.toNatClampNeg) M0 z.2.2.1 z.2.2.2.1 z.2.2.2.2.1 z.2.2.2.2.2.1 Na z.2.2.2.2.2.2.1 z.2.2.2.2.2.2.2.1 z.2.2.2.2.2.2.2.2) fun q4 =>
      o_nm (z.1 &&& q4.1) fun x7_710 =>
      o_gd (o_in z.2.1 1000) <|
      o_nm ((MT_next q4.2.1) z.2.1.toNatClampNeg) fun x10_722 =>
      some (0, x7_710, x10_722, q4.2.1, q4.2.2.1, q4.2.2.2.1, q4.2.2.2.2.1, q4.2.2.2.2.2.1, q4.2.2.2.2.2.2.1, q4.2.2.2.2.2.2.2)
    else
      some (1, z.1, z.2.1, z.2.2.1, z.2.2.2.1, z.2.2.2.2.1, z.2.2.2.2.2.1, z.2.2.2.2.2.2.1, z.2.2.2.2.2.2.2.1, z.2.2.2.2.2.2.2.2)
def m_MM_object_j372 (n : Nat) (rec : Int32 → Int32 → SMT → SMT → SNP → SNO → SNX → SNA → SNQ → SNJ → Nat → Option (Int32 × SMT × SNP × SNO × SNX × SNQ × SNJ × Nat)) (x4 : Int32) (x5 : Int64) (x7 : Int32) (x10 : Int32) (M0 : SMT) (M1 : SMT) (Np : SNP) (No : SNO) (Nx : SNX) (Na : SNA) (Nq : SNQ) (Nj : SNJ) (rt : Nat) : Option (Nat × Int64 × Int32 × Int32 × SMT × SNP × SNO × SNX × SNQ × SNJ × Nat) :=
  o_gd (o_in x10 1000) <|
  o_nm ((MT_next M0) x10.toNatClampNeg) fun x10_382 =>
  some (0, x5, x7, x10_382, M1, Np, No, Nx, Nq, Nj, rt)
def m_MM_object_b299 (n : Nat) (rec : Int32 → Int32 → SMT → SMT → SNP → SNO → SNX → SNA → SNQ → SNJ → Nat → Option (Int32 × SMT × SNP × SNO × SNX × SNQ × SNJ × Nat)) (x4 : Int32) (M0 : SMT) (Na : SNA) (z : Int64 × Int32 × Int32 × SMT × SNP × SNO × SNX × SNQ × SNJ × Nat) : Option (Nat × Int64 × Int32 × Int32 × SMT × SNP × SNO × SNX × SNQ × SNJ × Nat) :=
  if z.2.2.1 < 0 then
    some (1, z.1, z.2.1, z.2.2.1, z.2.2.2.1, z.2.2.2.2.1, z.2.2.2.2.2.1, z.2.2.2.2.2.2.1, z.2.2.2.2.2.2.2.1, z.2.2.2.2.2.2.2.2.1, z.2.2.2.2.2.2.2.2.2)
  else
    if (NJ_over z.2.2.2.2.2.2.2.2.1) = 0 then
      o_gd (o_in z.2.2.1 1000) <|
      o_bd (m_MT_member_1 n x4 ((MT_name M0) z.2.2.1.toNatClampNeg) z.2.2.2.1 M0) fun q7 =>
      if 0 ≤ q7 then
        o_bd (rec z.2.2.1 q7 M0 z.2.2.2.1 z.2.2.2.2.1 z.2.2.2.2.2.1 z.2.2.2.2.2.2.1 Na z.2.2.2.2.2.2.2.1 z.2.2.2.2.2.2.2.2.1 z.2.2.2.2.2.2.2.2.2) fun q8 =>
        o_nm (z.2.1 &&& q8.1) fun x7_355 =>
        o_bd (m_MM_placeOf n x4 q7 q8.2.1) fun q9 =>
        o_nm (z.1 ||| ((1:Int64) <<< (q9.toInt64 &&& 63))) fun x5_370 =>
        m_MM_object_j372 n rec x4 x5_370 x7_355 z.2.2.1 M0 q8.2.1 q8.2.2.1 q8.2.2.2.1 q8.2.2.2.2.1 Na q8.2.2.2.2.2.1 q8.2.2.2.2.2.2.1 q8.2.2.2.2.2.2.2
      else
        m_MM_object_j372 n rec x4 z.1 z.2.1 z.2.2.1 M0 z.2.2.2.1 z.2.2.2.2.1 z.2.2.2.2.2.1 z.2.2.2.2.2.2.1 Na z.2.2.2.2.2.2.2.1 z.2.2.2.2.2.2.2.2.1 z.2.2.2.2.2.2.2.2.2
    else
      some (1, z.1, z.2.1, z.2.2.1, z.2.2.2.1, z.2.2.2.2.1, z.2.2.2.2.2.1, z.2.2.2.2.2.2.1, z.2.2.2.2.2.2.2.1, z.2.2.2.2.2.2.2.2.1, z.2.2.2.2.2.2.2.2.2)
def m_MM_object_j507 (n : Nat) (rec : Int32 → Int32 → SMT → SMT → SNP → SNO → SNX → SNA → SNQ → SNJ → Nat → Option (Int32 × SMT × SNP × SNO × SNX × SNQ × SNJ × Nat)) (x4 : Int32) (x5 : Int64) (x7 : Int32) (x9 : Int32) (x10 : Int32) (x11 : Int32) (M0 : SMT) (M1 : SMT) (Np : SNP) (No : SNO) (Nx : SNX) (Na : SNA) (Nq : SNQ) (Nj : SNJ) (rt : Nat) : Option (Nat × Int64 × Int32 × Int32 × Int32 × SMT × SNP × SNO × SNX × SNQ × SNJ × Nat) :=
  o_gd (o_in x11 1000) <|
  o_nm ((MT_next M1) x11.toNatClampNeg) fun x11_517 =>
  o_nm (x9 + (1:Int32)) fun x9_519 =>
  some (0, x5, x7, x9_519, x11_517, M1, Np, No, Nx, Nq, Nj, rt)
def m_MM_object_b428 (n : Nat) (rec : Int32 → Int32 → SMT → SMT → SNP → SNO → SNX → SNA → SNQ → SNJ → Nat → Option (Int32 × SMT × SNP × SNO × SNX × SNQ × SNJ × Nat)) (x4 : Int32) (x10 : Int32) (M0 : SMT) (Na : SNA) (z : Int64 × Int32 × Int32 × Int32 × SMT × SNP × SNO × SNX × SNQ × SNJ × Nat) : Option (Nat × Int64 × Int32 × Int32 × Int32 × SMT × SNP × SNO × SNX × SNQ × SNJ × Nat) :=
  if z.2.2.2.1 < 0 then
    some (1, z.1, z.2.1, z.2.2.1, z.2.2.2.1, z.2.2.2.2.1, z.2.2.2.2.2.1, z.2.2.2.2.2.2.1, z.2.2.2.2.2.2.2.1, z.2.2.2.2.2.2.2.2.1, z.2.2.2.2.2.2.2.2.2.1, z.2.2.2.2.2.2.2.2.2.2)
  else
    if (NJ_over z.2.2.2.2.2.2.2.2.2.1) = 0 then
      o_gd (o_in x10 1000) <|
      o_bd (m_MM_isPattern n ((MT_name M0) x10.toNatClampNeg) M0 z.2.2.2.2.2.1 z.2.2.2.2.2.2.1) fun q11 =>
      if q11.1 = 0 then
        m_MM_object_j507 n rec x4 z.1 z.2.1 z.2.2.1 x10 z.2.2.2.1 M0 z.2.2.2.2.1 q11.2.1 q11.2.2 z.2.2.2.2.2.2.2.1 Na z.2.2.2.2.2.2.2.2.1 z.2.2.2.2.2.2.2.2.2.1 (33)
      else
        o_gd (o_in z.2.2.2.1 1000) <|
        o_bd (m_MM_matches n ((MT_name z.2.2.2.2.1) z.2.2.2.1.toNatClampNeg) z.2.2.2.2.1 q11.2.1 q11.2.2 z.2.2.2.2.2.2.2.1) fun q12 =>
        if q12.1 = 0 then
          m_MM_object_j507 n rec x4 z.1 z.2.1 z.2.2.1 x10 z.2.2.2.1 M0 z.2.2.2.2.1 q11.2.1 q11.2.2 q12.2 Na z.2.2.2.2.2.2.2.2.1 z.2.2.2.2.2.2.2.2.2.1 (33)
        else
          o_bd (rec x10 z.2.2.2.1 M0 z.2.2.2.2.1 q11.2.1 q11.2.2 q12.2 Na z.2.2.2.2.2.2.2.2.1 z.2.2.2.2.2.2.2.2.2.1 (33)) fun q13 =>
          o_nm (z.2.1 &&& q13.1) fun x7_496 =>
          o_nm (z.1 ||| ((1:Int64) <<< (z.2.2.1.toInt64 &&& 63))) fun x5_505 =>
          m_MM_object_j507 n rec x4 x5_505 x7_496 z.2.2.1 x10 z.2.2.2.1 M0 q13.2.1 q13.2.2.1 q13.2.2.2.1 q13.2.2.2.2.1 Na q13.2.2.2.2.2.1 q13.2.2.2.2.2.2.1 q13.2.2.2.2.2.2.2
    else
      some (1, z.1, z.2.1, z.2.2.1, z.2.2.2.1, z.2.2.2.2.1, z.2.2.2.2.2.1, z.2.2.2.2.2.2.1, z.2.2.2.2.2.2.2.1, z.2.2.2.2.2.2.2.2.1, z.2.2.2.2.2.2.2.2.2.1, z.2.2.2.2.2.2.2.2.2.2)
def m_MM_object_j525 (n : Nat) (rec : Int32 → Int32 → SMT → SMT → SNP → SNO → SNX → SNA → SNQ → SNJ → Nat → Option (Int32 × SMT × SNP × SNO × SNX × SNQ × SNJ × Nat)) (x4 : Int32) (x5 : Int64) (x7 : Int32) (x10 : Int32) (M0 : SMT) (M1 : SMT) (Np : SNP) (No : SNO) (Nx : SNX) (Na : SNA) (Nq : SNQ) (Nj : SNJ) (rt : Nat) : Option (Nat × Int64 × Int32 × Int32 × SMT × SNP × SNO × SNX × SNQ × SNJ × Nat) :=
  o_gd (o_in x10 1000) <|
  o_nm ((MT_next M0) x10.toNatClampNeg) fun x10_535 =>
  some (0, x5, x7, x10_535, M1, Np, No, Nx, Nq, Nj, rt)
def m_MM_object_b401 (n : Nat) (rec : Int32 → Int32 → SMT → SMT → SNP → SNO → SNX → SNA → SNQ → SNJ → Nat → Option (Int32 × SMT × SNP × SNO × SNX × SNQ × SNJ × Nat)) (x4 : Int32) (M0 : SMT) (Na : SNA) (z : Int64 × Int32 × Int32 × SMT × SNP × SNO × SNX × SNQ × SNJ × Nat) : Option (Nat × Int64 × Int32 × Int32 × SMT × SNP × SNO × SNX × SNQ × SNJ × Nat) :=
  if z.2.2.1 < 0 then
    some (1, z.1, z.2.1, z.2.2.1, z.2.2.2.1, z.2.2.2.2.1, z.2.2.2.2.2.1, z.2.2.2.2.2.2.1, z.2.2.2.2.2.2.2.1, z.2.2.2.2.2.2.2.2.1, z.2.2.2.2.2.2.2.2.2)
  else
    if (NJ_over z.2.2.2.2.2.2.2.2.1) = 0 then
      o_gd (o_in x4 1000) <|
      o_nm ((MT_first z.2.2.2.1) x4.toNatClampNeg) fun x11_426 =>
      o_bd (o_lp n (m_MM_object_b428 n rec x4 z.2.2.1 M0 Na) (z.1, z.2.1, (0:Int32), x11_426, z.2.2.2.1, z.2.2.2.2.1, z.2.2.2.2.2.1, z.2.2.2.2.2.2.1, z.2.2.2.2.2.2.2.1, z.2.2.2.2.2.2.2.2.1, z.2.2.2.2.2.2.2.2.2)) fun q14 =>
      m_MM_object_j525 n rec x4 q14.2.1 q14.2.2.1 z.2.2.1 M0 q14.2.2.2.2.2.1 q14.2.2.2.2.2.2.1 q14.2.2.2.2.2.2.2.1 q14.2.2.2.2.2.2.2.2.1 Na q14.2.2.2.2.2.2.2.2.2.1 q14.2.2.2.2.2.2.2.2.2.2.1 q14.2.2.2.2.2.2.2.2.2.2.2
    else
      some (1, z.1, z.2.1, z.2.2.1, z.2.2.2.1, z.2.2.2.2.1, z.2.2.2.2.2.1, z.2.2.2.2.2.2.1, z.2.2.2.2.2.2.2.1, z.2.2.2.2.2.2.2.2.1, z.2.2.2.2.2.2.2.2.2)
def m_MM_object_j271 (n : Nat) (rec : Int32 → Int32 → SMT → SMT → SNP → SNO → SNX → SNA → SNQ → SNJ → Nat → Option (Int32 × SMT × SNP × SNO × SNX × SNQ × SNJ × Nat)) (x4 : Int32) (x10 : Int32) (M0 : SMT) (M1 : SMT) (Np : SNP) (No : SNO) (Nx : SNX) (Na : SNA) (Nq : SNQ) (Nj : SNJ) (rt : Nat) : Option (Nat × Int32) :=
  o_gd (o_in x10 1000) <|
  o_nm ((MT_next M0) x10.toNatClampNeg) fun x10_281 =>
  some (0, x10_281)
def m_MM_object_b227 (n : Nat) (rec : Int32 → Int32 → SMT → SMT → SNP → SNO → SNX → SNA → SNQ → SNJ → Nat → Option (Int32 × SMT × SNP × SNO × SNX × SNQ × SNJ × Nat)) (x4 : Int32) (M0 : SMT) (M1 : SMT) (Np : SNP) (No : SNO) (Nx : SNX) (Na : SNA) (Nq : SNQ) (Nj : SNJ) (rt : Nat) (z : Int32) : Option (Nat × Int32) :=
  if z < 0 then
    some (2, z)
  else
    o_gd (o_in z 1000) <|
    o_bd (m_MT_member_1 n x4 ((MT_name M0) z.toNatClampNeg) M1 M0) fun q19 =>
    if q19 < 0 then
      m_MM_object_j271 n rec x4 z M0 M1 Np No Nx Na Nq Nj rt
    else
      o_bd (m_MM_requires n z x4 M0 M1) fun q20 =>
      if q20 = 0 then
        some (1, z)
      else
        m_MM_object_j271 n rec x4 z M0 M1 Np No Nx Na Nq Nj rt
def m_MM_object (n : Nat) (rec : Int32 → Int32 → SMT → SMT → SNP → SNO → SNX → SNA → SNQ → SNJ → Nat → Option (Int32 × SMT × SNP × SNO × SNX × SNQ × SNJ × Nat)) (x1 : Int32) (x2 : Int32) (x3 : Int32) (x4 : Int32) (M0 : SMT) (M1 : SMT) (Np : SNP) (No : SNO) (Nx : SNX) (Na : SNA) (Nq : SNQ) (Nj : SNJ) (rt : Nat) : Option (Int32 × SMT × SNP × SNO × SNX × SNQ × SNJ × Nat) :=
  o_nm (NJ_seen Nj) fun x5_4 =>
  o_gd (o_in x4 1000) <|
  o_nm ((MT_many M1) x4.toNatClampNeg) fun x8_19 =>
  if x1 = (6:Int32) then
    o_gd (o_in x4 1000) <|
    o_nm ((MT_first M1) x4.toNatClampNeg) fun x10_553 =>
    o_bd (o_lp n (m_MM_object_b555 n rec x1 x2 x3 M0 Na) (x5_4, (1:Int32), (0:Int32), x10_553, M1, Np, No, Nx, Nq, Nj, rt)) fun q3 =>
    m_MM_object_j654 n rec x1 q3.2.1 q3.2.2.1 M0 q3.2.2.2.2.2.1 q3.2.2.2.2.2.2.1 q3.2.2.2.2.2.2.2.1 q3.2.2.2.2.2.2.2.2.1 Na q3.2.2.2.2.2.2.2.2.2.1 q3.2.2.2.2.2.2.2.2.2.2.1 q3.2.2.2.2.2.2.2.2.2.2.2
  else
  if x1 = (7:Int32) then
    o_gd (o_in x4 1000) <|
    o_nm ((MT_first M1) x4.toNatClampNeg) fun x10_678 =>
    o_bd (o_lp n (m_MM_object_b680 n rec x2 x5_4 M0 Na) ((1:Int32), x10_678, M1, Np, No, Nx, Nq, Nj, rt)) fun q5 =>
    o_gd (o_zb q5.2.1) <|
    some (q5.2.1, q5.2.2.2.1, q5.2.2.2.2.1, q5.2.2.2.2.2.1, q5.2.2.2.2.2.2.1, q5.2.2.2.2.2.2.2.1, (NJ_mk (NJ_judged q5.2.2.2.2.2.2.2.2.1) (NJ_deepest q5.2.2.2.2.2.2.2.2.1) (NJ_depth q5.2.2.2.2.2.2.2.2.1) (NJ_over q5.2.2.2.2.2.2.2.2.1) x5_4), q5.2.2.2.2.2.2.2.2.2)
  else
  if x1 = (8:Int32) then
    some ((1:Int32), M1, Np, No, Nx, Nq, Nj, rt)
  else
  if x1 = (9:Int32) then
    o_gd (o_in x4 1000) <|
    o_nm ((MT_first M1) x4.toNatClampNeg) fun x10_553 =>
    o_bd (o_lp n (m_MM_object_b555 n rec x1 x2 x3 M0 Na) (x5_4, (1:Int32), (0:Int32), x10_553, M1, Np, No, Nx, Nq, Nj, rt)) fun q6 =>
    m_MM_object_j654 n rec x1 q6.2.1 q6.2.2.1 M0 q6.2.2.2.2.2.1 q6.2.2.2.2.2.2.1 q6.2.2.2.2.2.2.2.1 q6.2.2.2.2.2.2.2.2.1 Na q6.2.2.2.2.2.2.2.2.2.1 q6.2.2.2.2.2.2.2.2.2.2.1 q6.2.2.2.2.2.2.2.2.2.2.2
  else
  if x1 = (10:Int32) then
    some ((1:Int32), M1, Np, No, Nx, Nq, Nj, rt)
  else
  if x1 = (11:Int32) then
    some ((1:Int32), M1, Np, No, Nx, Nq, Nj, rt)
  else
  if x1 = (12:Int32) then
    some ((1:Int32), M1, Np, No, Nx, Nq, Nj, rt)
  else
  if x1 = (13:Int32) then
    some ((1:Int32), M1, Np, No, Nx, Nq, Nj, rt)
  else
  if x1 = (14:Int32) then
    some ((1:Int32), M1, Np, No, Nx, Nq, Nj, rt)
  else
  if x1 = (15:Int32) then
    o_gd (o_in x2 1000) <|
    o_nm ((MT_first M0) x2.toNatClampNeg) fun x10_297 =>
    o_bd (o_lp n (m_MM_object_b299 n rec x4 M0 Na) (x5_4, (1:Int32), x10_297, M1, Np, No, Nx, Nq, Nj, rt)) fun q10 =>
    o_gd (o_zb q10.2.2.1) <|
    some (q10.2.2.1, q10.2.2.2.2.1, q10.2.2.2.2.2.1, q10.2.2.2.2.2.2.1, q10.2.2.2.2.2.2.2.1, q10.2.2.2.2.2.2.2.2.1, (NJ_mk (NJ_judged q10.2.2.2.2.2.2.2.2.2.1) (NJ_deepest q10.2.2.2.2.2.2.2.2.2.1) (NJ_depth q10.2.2.2.2.2.2.2.2.2.1) (NJ_over q10.2.2.2.2.2.2.2.2.2.1) q10.2.1), q10.2.2.2.2.2.2.2.2.2.2)
  else
  if x1 = (16:Int32) then
    o_gd (o_in x2 1000) <|
    o_nm ((MT_first M0) x2.toNatClampNeg) fun x10_399 =>
    o_bd (o_lp n (m_MM_object_b401 n rec x4 M0 Na) (x5_4, (1:Int32), x10_399, M1, Np, No, Nx, Nq, Nj, rt)) fun q15 =>
    o_gd (o_zb q15.2.2.1) <|
    some (q15.2.2.1, q15.2.2.2.2.1, q15.2.2.2.2.2.1, q15.2.2.2.2.2.2.1, q15.2.2.2.2.2.2.2.1, q15.2.2.2.2.2.2.2.2.1, (NJ_mk (NJ_judged q15.2.2.2.2.2.2.2.2.2.1) (NJ_deepest q15.2.2.2.2.2.2.2.2.2.1) (NJ_depth q15.2.2.2.2.2.2.2.2.2.1) (NJ_over q15.2.2.2.2.2.2.2.2.2.1) q15.2.1), q15.2.2.2.2.2.2.2.2.2.2)
  else
  if x1 = (17:Int32) then
    some ((1:Int32), M1, Np, No, Nx, Nq, Nj, rt)
  else
  if x1 = (18:Int32) then
    some ((1:Int32), M1, Np, No, Nx, Nq, Nj, rt)
  else
  if x1 = (19:Int32) then
    some ((1:Int32), M1, Np, No, Nx, Nq, Nj, rt)
  else
  if x1 = (20:Int32) then
    some ((1:Int32), M1, Np, No, Nx, Nq, Nj, rt)
  else
  if x1 = (21:Int32) then
    some ((1:Int32), M1, Np, No, Nx, Nq, Nj, rt)
  else
  if x1 = (22:Int32) then
    some ((1:Int32), M1, Np, No, Nx, Nq, Nj, rt)
  else
  if x1 = (23:Int32) then
    some ((1:Int32), M1, Np, No, Nx, Nq, Nj, rt)
  else
  if x1 = (24:Int32) then
    some ((1:Int32), M1, Np, No, Nx, Nq, Nj, rt)
  else
  if x1 = (25:Int32) then
    some ((1:Int32), M1, Np, No, Nx, Nq, Nj, rt)
  else
  if x1 = (26:Int32) then
    some ((1:Int32), M1, Np, No, Nx, Nq, Nj, rt)
  else
  if x1 = (27:Int32) then
    some ((1:Int32), M1, Np, No, Nx, Nq, Nj, rt)
  else
  if x1 = (28:Int32) then
    some ((1:Int32), M1, Np, No, Nx, Nq, Nj, rt)
  else
  if x1 = (29:Int32) then
    o_bd (m_MM_intOf n x2 M0) fun q16 =>
    if q16 < x8_19 then
      some ((0:Int32), M1, Np, No, Nx, Nq, Nj, rt)
    else
      some ((1:Int32), M1, Np, No, Nx, Nq, Nj, rt)
  else
  if x1 = (30:Int32) then
    o_bd (m_MM_intOf n x2 M0) fun q17 =>
    if x8_19 < q17 then
      some ((0:Int32), M1, Np, No, Nx, Nq, Nj, rt)
    else
      some ((1:Int32), M1, Np, No, Nx, Nq, Nj, rt)
  else
  if x1 = (31:Int32) then
    some ((1:Int32), M1, Np, No, Nx, Nq, Nj, rt)
  else
  if x1 = (32:Int32) then
    some ((1:Int32), M1, Np, No, Nx, Nq, Nj, rt)
  else
  if x1 = (33:Int32) then
    some ((1:Int32), M1, Np, No, Nx, Nq, Nj, rt)
  else
  if x1 = (34:Int32) then
    some ((1:Int32), M1, Np, No, Nx, Nq, Nj, rt)
  else
  if x1 = (35:Int32) then
    some ((1:Int32), M1, Np, No, Nx, Nq, Nj, rt)
  else
  if x1 = (36:Int32) then
    some ((1:Int32), M1, Np, No, Nx, Nq, Nj, rt)
  else
  if x1 = (37:Int32) then
    some ((1:Int32), M1, Np, No, Nx, Nq, Nj, rt)
  else
  if x1 = (38:Int32) then
    o_bd (m_MM_requires n x2 x4 M0 M1) fun q18 =>
    o_gd (o_zb q18) <|
    some (q18, M1, Np, No, Nx, Nq, Nj, rt)
  else
  if x1 = (39:Int32) then
    o_gd (o_in x2 1000) <|
    o_nm ((MT_first M0) x2.toNatClampNeg) fun x10_225 =>
    o_bd (o_lp n (m_MM_object_b227 n rec x4 M0 M1 Np No Nx Na Nq Nj rt) (x10_225)) fun q21 =>
    if q21.1 = 1 then
      some ((0:Int32), M1, Np, No, Nx, Nq, Nj, rt)
    else
    some ((1:Int32), M1, Np, No, Nx, Nq, Nj, rt)
  else
  some ((1:Int32), M1, Np, No, Nx, Nq, Nj, rt)
def m_MM_array_j440 (n : Nat) (rec : Int32 → Int32 → SMT → SMT → SNP → SNO → SNX → SNA → SNQ → SNJ → Nat → Option (Int32 × SMT × SNP × SNO × SNX × SNQ × SNJ × Nat)) (x1 : Int32) (x2 : Int32) (x5 : Int64) (x7 : Int32) (x9 : Int32) (x12 : Int32) (x13 : Int32) (M0 : SMT) (M1 : SMT) (Np : SNP) (No : SNO) (Nx : SNX) (Na : SNA) (Nq : SNQ) (Nj : SNJ) (rt : Nat) : Option (Nat × Int64 × Int32 × Int32 × Int32 × SMT × SNP × SNO × SNX × SNQ × SNJ × Nat) :=
  o_gd (o_in x13 1000) <|
  o_nm ((MT_next M1) x13.toNatClampNeg) fun x13_450 =>
  o_nm (x9 + (1:Int32)) fun x9_452 =>
  some (0, x5, x7, x9_452, x13_450, M1, Np, No, Nx, Nq, Nj, rt)
def m_MM_array_j414 (n : Nat) (rec : Int32 → Int32 → SMT → SMT → SNP → SNO → SNX → SNA → SNQ → SNJ → Nat → Option (Int32 × SMT × SNP × SNO × SNX × SNQ × SNJ × Nat)) (x1 : Int32) (x2 : Int32) (x5 : Int64) (x7 : Int32) (x9 : Int32) (x12 : Int32) (x13 : Int32) (M0 : SMT) (M1 : SMT) (Np : SNP) (No : SNO) (Nx : SNX) (Na : SNA) (Nq : SNQ) (Nj : SNJ) (rt : Nat) : Option (Nat × Int64 × Int32 × Int32 × Int32 × SMT × SNP × SNO × SNX × SNQ × SNJ × Nat) :=
  o_bd (rec x2 x13 M0 M1 Np No Nx Na Nq Nj rt) fun q2 =>
  o_nm (x7 &&& q2.1) fun x7_424 =>
  if x1 = (4:Int32) then
    o_nm (x5 ||| ((1:Int64) <<< (x9.toInt64 &&& 63))) fun x5_438 =>
    m_MM_array_j440 n rec x1 x2 x5_438 x7_424 x9 x12 x13 M0 q2.2.1 q2.2.2.1 q2.2.2.2.1 q2.2.2.2.2.1 Na q2.2.2.2.2.2.1 q2.2.2.2.2.2.2.1 q2.2.2.2.2.2.2.2
  else
    m_MM_array_j440 n rec x1 x2 x5 x7_424 x9 x12 x13 M0 q2.2.1 q2.2.2.1 q2.2.2.2.1 q2.2.2.2.2.1 Na q2.2.2.2.2.2.1 q2.2.2.2.2.2.2.1 q2.2.2.2.2.2.2.2
def m_MM_array_b374 (n : Nat) (rec : Int32 → Int32 → SMT → SMT → SNP → SNO → SNX → SNA → SNQ → SNJ → Nat → Option (Int32 × SMT × SNP × SNO × SNX × SNQ × SNJ × Nat)) (x1 : Int32) (x2 : Int32) (x12 : Int32) (M0 : SMT) (Na : SNA) (z : Int64 × Int32 × Int32 × Int32 × SMT × SNP × SNO × SNX × SNQ × SNJ × Nat) : Option (Nat × Int64 × Int32 × Int32 × Int32 × SMT × SNP × SNO × SNX × SNQ × SNJ × Nat) :=
  if z.2.2.2.1 < 0 then
    some (1, z.1, z.2.1, z.2.2.1, z.2.2.2.1, z.2.2.2.2.1, z.2.2.2.2.2.1, z.2.2.2.2.2.2.1, z.2.2.2.2.2.2.2.1, z.2.2.2.2.2.2.2.2.1, z.2.2.2.2.2.2.2.2.2.1, z.2.2.2.2.2.2.2.2.2.2)
  else
    if (NJ_over z.2.2.2.2.2.2.2.2.2.1) = 0 then
      if z.2.2.1 < x12 then
        m_MM_array_j440 n rec x1 x2 z.1 z.2.1 z.2.2.1 x12 z.2.2.2.1 M0 z.2.2.2.2.1 z.2.2.2.2.2.1 z.2.2.2.2.2.2.1 z.2.2.2.2.2.2.2.1 Na z.2.2.2.2.2.2.2.2.1 z.2.2.2.2.2.2.2.2.2.1 z.2.2.2.2.2.2.2.2.2.2
      else
        if x1 = (8:Int32) then
          if (lg_cmp ((z.1 >>> (z.2.2.1.toInt64 &&& 63)) &&& (1:Int64)) (0:Int64)) = 0 then
            m_MM_array_j414 n rec x1 x2 z.1 z.2.1 z.2.2.1 x12 z.2.2.2.1 M0 z.2.2.2.2.1 z.2.2.2.2.2.1 z.2.2.2.2.2.2.1 z.2.2.2.2.2.2.2.1 Na z.2.2.2.2.2.2.2.2.1 z.2.2.2.2.2.2.2.2.2.1 z.2.2.2.2.2.2.2.2.2.2
          else
            m_MM_array_j440 n rec x1 x2 z.1 z.2.1 z.2.2.1 x12 z.2.2.2.1 M0 z.2.2.2.2.1 z.2.2.2.2.2.1 z.2.2.2.2.2.2.1 z.2.2.2.2.2.2.2.1 Na z.2.2.2.2.2.2.2.2.1 z.2.2.2.2.2.2.2.2.2.1 z.2.2.2.2.2.2.2.2.2.2
        else
          m_MM_array_j414 n rec x1 x2 z.1 z.2.1 z.2.2.1 x12 z.2.2.2.1 M0 z.2.2.2.2.1 z.2.2.2.2.2.1 z.2.2.2.2.2.2.1 z.2.2.2.2.2.2.2.1 Na z.2.2.2.2.2.2.2.2.1 z.2.2.2.2.2.2.2.2.2.1 z.2.2.2.2.2.2.2.2.2.2
    else
      some (1, z.1, z.2.1, z.2.2.1, z.2.2.2.1, z.2.2.2.2.1, z.2.2.2.2.2.1, z.2.2.2.2.2.2.1, z.2.2.2.2.2.2.2.1, z.2.2.2.2.2.2.2.2.1, z.2.2.2.2.2.2.2.2.2.1, z.2.2.2.2.2.2.2.2.2.2)
def m_MM_array_j458 (n : Nat) (rec : Int32 → Int32 → SMT → SMT → SNP → SNO → SNX → SNA → SNQ → SNJ → Nat → Option (Int32 × SMT × SNP × SNO × SNX × SNQ × SNJ × Nat)) (x1 : Int32) (x5 : Int64) (x7 : Int32) (M0 : SMT) (M1 : SMT) (Np : SNP) (No : SNO) (Nx : SNX) (Na : SNA) (Nq : SNQ) (Nj : SNJ) (rt : Nat) : Option (Int32 × SMT × SNP × SNO × SNX × SNQ × SNJ × Nat) :=
  if x1 = (8:Int32) then
    o_gd (o_zb x7) <|
    some (x7, M1, Np, No, Nx, Nq, (NJ_mk (NJ_judged Nj) (NJ_deepest Nj) (NJ_depth Nj) (NJ_over Nj) (-1:Int64)), rt)
  else
    o_gd (o_zb x7) <|
    some (x7, M1, Np, No, Nx, Nq, (NJ_mk (NJ_judged Nj) (NJ_deepest Nj) (NJ_depth Nj) (NJ_over Nj) x5), rt)
def m_MM_array_j360 (n : Nat) (rec : Int32 → Int32 → SMT → SMT → SNP → SNO → SNX → SNA → SNQ → SNJ → Nat → Option (Int32 × SMT × SNP × SNO × SNX × SNQ × SNJ × Nat)) (x1 : Int32) (x2 : Int32) (x4 : Int32) (x5 : Int64) (x7 : Int32) (x9 : Int32) (y0 : Int32) (M0 : SMT) (M1 : SMT) (Np : SNP) (No : SNO) (Nx : SNX) (Na : SNA) (Nq : SNQ) (Nj : SNJ) (rt : Nat) : Option (Int32 × SMT × SNP × SNO × SNX × SNQ × SNJ × Nat) :=
  o_gd (o_in x4 1000) <|
  o_nm ((MT_first M1) x4.toNatClampNeg) fun x13_372 =>
  o_bd (o_lp n (m_MM_array_b374 n rec x1 x2 y0 M0 Na) (x5, x7, x9, x13_372, M1, Np, No, Nx, Nq, Nj, rt)) fun q3 =>
  m_MM_array_j458 n rec x1 q3.2.1 q3.2.2.1 M0 q3.2.2.2.2.2.1 q3.2.2.2.2.2.2.1 q3.2.2.2.2.2.2.2.1 q3.2.2.2.2.2.2.2.2.1 Na q3.2.2.2.2.2.2.2.2.2.1 q3.2.2.2.2.2.2.2.2.2.2.1 q3.2.2.2.2.2.2.2.2.2.2.2
def m_MM_array_j548 (n : Nat) (rec : Int32 → Int32 → SMT → SMT → SNP → SNO → SNX → SNA → SNQ → SNJ → Nat → Option (Int32 × SMT × SNP × SNO × SNX × SNQ × SNJ × Nat)) (x2 : Int32) (x5 : Int64) (x9 : Int32) (x10 : Int32) (x11 : Int32) (x12 : Int32) (x13 : Int32) (x14 : Int32) (M0 : SMT) (M1 : SMT) (Np : SNP) (No : SNO) (Nx : SNX) (Na : SNA) (Nq : SNQ) (Nj : SNJ) (rt : Nat) : Option (Nat × Int64 × Int32 × Int32 × Int32 × SMT × SNP × SNO × SNX × SNQ × SNJ × Nat) :=
  o_gd (o_in x14 1000) <|
  o_nm ((MT_next M1) x14.toNatClampNeg) fun x14_558 =>
  o_nm (x9 + (1:Int32)) fun x9_560 =>
  some (0, x5, x9_560, x10, x14_558, M1, Np, No, Nx, Nq, Nj, rt)
def m_MM_array_b514 (n : Nat) (rec : Int32 → Int32 → SMT → SMT → SNP → SNO → SNX → SNA → SNQ → SNJ → Nat → Option (Int32 × SMT × SNP × SNO × SNX × SNQ × SNJ × Nat)) (x2 : Int32) (x11 : Int32) (x12 : Int32) (x13 : Int32) (M0 : SMT) (Na : SNA) (z : Int64 × Int32 × Int32 × Int32 × SMT × SNP × SNO × SNX × SNQ × SNJ × Nat) : Option (Nat × Int64 × Int32 × Int32 × Int32 × SMT × SNP × SNO × SNX × SNQ × SNJ × Nat) :=
  if z.2.2.2.1 < 0 then
    some (1, z.1, z.2.1, z.2.2.1, z.2.2.2.1, z.2.2.2.2.1, z.2.2.2.2.2.1, z.2.2.2.2.2.2.1, z.2.2.2.2.2.2.2.1, z.2.2.2.2.2.2.2.2.1, z.2.2.2.2.2.2.2.2.2.1, z.2.2.2.2.2.2.2.2.2.2)
  else
    if (NJ_over z.2.2.2.2.2.2.2.2.2.1) = 0 then
      o_bd (rec x2 z.2.2.2.1 M0 z.2.2.2.2.1 z.2.2.2.2.2.1 z.2.2.2.2.2.2.1 z.2.2.2.2.2.2.2.1 Na z.2.2.2.2.2.2.2.2.1 z.2.2.2.2.2.2.2.2.2.1 z.2.2.2.2.2.2.2.2.2.2) fun q6 =>
      if q6.1 = 0 then
        m_MM_array_j548 n rec x2 z.1 z.2.1 z.2.2.1 x11 x12 x13 z.2.2.2.1 M0 q6.2.1 q6.2.2.1 q6.2.2.2.1 q6.2.2.2.2.1 Na q6.2.2.2.2.2.1 q6.2.2.2.2.2.2.1 q6.2.2.2.2.2.2.2
      else
        o_nm (z.2.2.1 + (1:Int32)) fun x10_536 =>
        o_nm (z.1 ||| ((1:Int64) <<< (z.2.1.toInt64 &&& 63))) fun x5_546 =>
        m_MM_array_j548 n rec x2 x5_546 z.2.1 x10_536 x11 x12 x13 z.2.2.2.1 M0 q6.2.1 q6.2.2.1 q6.2.2.2.1 q6.2.2.2.2.1 Na q6.2.2.2.2.2.1 q6.2.2.2.2.2.2.1 q6.2.2.2.2.2.2.2
    else
      some (1, z.1, z.2.1, z.2.2.1, z.2.2.2.1, z.2.2.2.2.1, z.2.2.2.2.2.1, z.2.2.2.2.2.2.1, z.2.2.2.2.2.2.2.1, z.2.2.2.2.2.2.2.2.1, z.2.2.2.2.2.2.2.2.2.1, z.2.2.2.2.2.2.2.2.2.2)
def m_MM_array_j589 (n : Nat) (rec : Int32 → Int32 → SMT → SMT → SNP → SNO → SNX → SNA → SNQ → SNJ → Nat → Option (Int32 × SMT × SNP × SNO × SNX × SNQ × SNJ × Nat)) (x5 : Int64) (x10 : Int32) (x13 : Int32) (y0 : Int32) (y1 : Int32) (M0 : SMT) (M1 : SMT) (Np : SNP) (No : SNO) (Nx : SNX) (Na : SNA) (Nq : SNQ) (Nj : SNJ) (rt : Nat) : Option (Int32 × SMT × SNP × SNO × SNX × SNQ × SNJ × Nat) :=
  if y0 < y1 then
    some ((0:Int32), M1, Np, No, Nx, Nq, (NJ_mk (NJ_judged Nj) (NJ_deepest Nj) (NJ_depth Nj) (NJ_over Nj) x5), rt)
  else
    if x13 < 0 then
      some ((1:Int32), M1, Np, No, Nx, Nq, (NJ_mk (NJ_judged Nj) (NJ_deepest Nj) (NJ_depth Nj) (NJ_over Nj) x5), rt)
    else
      o_bd (m_MM_intOf n x13 M0) fun q9 =>
      if q9 < x10 then
        some ((0:Int32), M1, Np, No, Nx, Nq, (NJ_mk (NJ_judged Nj) (NJ_deepest Nj) (NJ_depth Nj) (NJ_over Nj) x5), rt)
      else
        some ((1:Int32), M1, Np, No, Nx, Nq, (NJ_mk (NJ_judged Nj) (NJ_deepest Nj) (NJ_depth Nj) (NJ_over Nj) x5), rt)
def m_MM_array_j566 (n : Nat) (rec : Int32 → Int32 → SMT → SMT → SNP → SNO → SNX → SNA → SNQ → SNJ → Nat → Option (Int32 × SMT × SNP × SNO × SNX × SNQ × SNJ × Nat)) (x5 : Int64) (x10 : Int32) (x11 : Int32) (x12 : Int32) (x13 : Int32) (M0 : SMT) (M1 : SMT) (Np : SNP) (No : SNO) (Nx : SNX) (Na : SNA) (Nq : SNQ) (Nj : SNJ) (rt : Nat) : Option (Int32 × SMT × SNP × SNO × SNX × SNQ × SNJ × Nat) :=
  if 0 ≤ x12 then
    o_bd (m_MM_intOf n x12 M0) fun q8 =>
    m_MM_array_j589 n rec x5 x10 x13 x10 q8 M0 M1 Np No Nx Na (NQ_mk (NQ_pairValue Nq) (NQ_pairKey Nq) x11) Nj rt
  else
    m_MM_array_j589 n rec x5 x10 x13 x10 (1:Int32) M0 M1 Np No Nx Na (NQ_mk (NQ_pairValue Nq) (NQ_pairKey Nq) x11) Nj rt
def m_MM_array_b252 (n : Nat) (rec : Int32 → Int32 → SMT → SMT → SNP → SNO → SNX → SNA → SNQ → SNJ → Nat → Option (Int32 × SMT × SNP × SNO × SNX × SNQ × SNJ × Nat)) (M0 : SMT) (Na : SNA) (z : Int64 × Int32 × Int32 × Int32 × Int32 × SMT × SNP × SNO × SNX × SNQ × SNJ × Nat) : Option (Nat × Int64 × Int32 × Int32 × Int32 × Int32 × SMT × SNP × SNO × SNX × SNQ × SNJ × Nat) :=
  if z.2.2.2.2.1 < 0 then
    some (1, z.1, z.2.1, z.2.2.1, z.2.2.2.1, z.2.2.2.2.1, z.2.2.2.2.2.1, z.2.2.2.2.2.2.1, z.2.2.2.2.2.2.2.1, z.2.2.2.2.2.2.2.2.1, z.2.2.2.2.2.2.2.2.2.1, z.2.2.2.2.2.2.2.2.2.2.1, z.2.2.2.2.2.2.2.2.2.2.2)
  else
    if z.2.2.2.1 < 0 then
      some (1, z.1, z.2.1, z.2.2.1, z.2.2.2.1, z.2.2.2.2.1, z.2.2.2.2.2.1, z.2.2.2.2.2.2.1, z.2.2.2.2.2.2.2.1, z.2.2.2.2.2.2.2.2.1, z.2.2.2.2.2.2.2.2.2.1, z.2.2.2.2.2.2.2.2.2.2.1, z.2.2.2.2.2.2.2.2.2.2.2)
    else
      if (NJ_over z.2.2.2.2.2.2.2.2.2.2.1) = 0 then
        o_bd (rec z.2.2.2.1 z.2.2.2.2.1 M0 z.2.2.2.2.2.1 z.2.2.2.2.2.2.1 z.2.2.2.2.2.2.2.1 z.2.2.2.2.2.2.2.2.1 Na z.2.2.2.2.2.2.2.2.2.1 z.2.2.2.2.2.2.2.2.2.2.1 z.2.2.2.2.2.2.2.2.2.2.2) fun q11 =>
        o_nm (z.2.1 &&& q11.1) fun x7_280 =>
        o_nm (z.2.2.1 + (1:Int32)) fun x9_287 =>
        o_nm (z.1 ||| ((1:Int64) <<< (z.2.2.1.toInt64 &&& 63))) fun x5_292 =>
        o_gd (o_in z.2.2.2.2.1 1000) <|
        o_nm ((MT_next q11.2.1) z.2.2.2.2.1.toNatClampNeg) fun x12_304 =>
        o_gd (o_in z.2.2.2.1 1000) <|
        o_nm ((MT_next M0) z.2.2.2.1.toNatClampNeg) fun x11_316 =>
        some (0, x5_292, x7_280, x9_287, x11_316, x12_304, q11.2.1, q11.2.2.1, q11.2.2.2.1, q11.2.2.2.2.1, q11.2.2.2.2.2.1, q11.2.2.2.2.2.2.1, q11.2.2.2.2.2.2.2)
      else
        some (1, z.1, z.2.1, z.2.2.1, z.2.2.2.1, z.2.2.2.2.1, z.2.2.2.2.2.1, z.2.2.2.2.2.2.1, z.2.2.2.2.2.2.2.1, z.2.2.2.2.2.2.2.2.1, z.2.2.2.2.2.2.2.2.2.1, z.2.2.2.2.2.2.2.2.2.2.1, z.2.2.2.2.2.2.2.2.2.2.2)
def m_MM_array_b172 (n : Nat) (rec : Int32 → Int32 → SMT → SMT → SNP → SNO → SNX → SNA → SNQ → SNJ → Nat → Option (Int32 × SMT × SNP × SNO × SNX × SNQ × SNJ × Nat)) (x11 : Int32) (M0 : SMT) (M1 : SMT) (Np : SNP) (No : SNO) (Nx : SNX) (Na : SNA) (Nq : SNQ) (Nj : SNJ) (rt : Nat) (z : Int32) : Option (Nat × Int32) :=
  if z < 0 then
    some (2, z)
  else
    o_bd (m_MT_alike n 1003 x11 z M1 M1) fun q15 =>
    if q15 = 0 then
      o_gd (o_in z 1000) <|
      o_nm ((MT_next M1) z.toNatClampNeg) fun x12_207 =>
      some (0, x12_207)
    else
      some (1, z)
def m_MM_array_b155 (n : Nat) (rec : Int32 → Int32 → SMT → SMT → SNP → SNO → SNX → SNA → SNQ → SNJ → Nat → Option (Int32 × SMT × SNP × SNO × SNX × SNQ × SNJ × Nat)) (M0 : SMT) (M1 : SMT) (Np : SNP) (No : SNO) (Nx : SNX) (Na : SNA) (Nq : SNQ) (Nj : SNJ) (rt : Nat) (z : Int32) : Option (Nat × Int32) :=
  if z < 0 then
    some (2, z)
  else
    o_gd (o_in z 1000) <|
    o_nm ((MT_next M1) z.toNatClampNeg) fun x12_170 =>
    o_bd (o_lp n (m_MM_array_b172 n rec z M0 M1 Np No Nx Na Nq Nj rt) (x12_170)) fun q16 =>
    if q16.1 = 1 then
      some (1, z)
    else
    o_gd (o_in z 1000) <|
    o_nm ((MT_next M1) z.toNatClampNeg) fun x11_222 =>
    some (0, x11_222)
def m_MM_array (n : Nat) (rec : Int32 → Int32 → SMT → SMT → SNP → SNO → SNX → SNA → SNQ → SNJ → Nat → Option (Int32 × SMT × SNP × SNO × SNX × SNQ × SNJ × Nat)) (x1 : Int32) (x2 : Int32) (x3 : Int32) (x4 : Int32) (M0 : SMT) (M1 : SMT) (Np : SNP) (No : SNO) (Nx : SNX) (Na : SNA) (Nq : SNQ) (Nj : SNJ) (rt : Nat) : Option (Int32 × SMT × SNP × SNO × SNX × SNQ × SNJ × Nat) :=
  o_nm (NJ_seen Nj) fun x5_4 =>
  o_gd (o_in x4 1000) <|
  o_nm ((MT_many M1) x4.toNatClampNeg) fun x8_19 =>
  if x1 = (4:Int32) then
    o_bd (m_MT_member n x3 38 M0) fun q1 =>
    if x1 = (4:Int32) then
      if q1 < 0 then
        m_MM_array_j360 n rec x1 x2 x4 x5_4 (1:Int32) (0:Int32) (0:Int32) M0 M1 Np No Nx Na Nq Nj rt
      else
        o_gd (o_in q1 1000) <|
        m_MM_array_j360 n rec x1 x2 x4 x5_4 (1:Int32) (0:Int32) ((MT_many M0) q1.toNatClampNeg) M0 M1 Np No Nx Na Nq Nj rt
    else
      m_MM_array_j360 n rec x1 x2 x4 x5_4 (1:Int32) (0:Int32) (0:Int32) M0 M1 Np No Nx Na Nq Nj rt
  else
  if x1 = (5:Int32) then
    o_nm (NQ_pairs Nq) fun x11_476 =>
    o_bd (m_MT_member n x3 53 M0) fun q4 =>
    o_bd (m_MT_member n x3 52 M0) fun q5 =>
    o_gd (o_in x4 1000) <|
    o_nm ((MT_first M1) x4.toNatClampNeg) fun x14_512 =>
    o_bd (o_lp n (m_MM_array_b514 n rec x2 x11_476 q4 q5 M0 Na) (x5_4, (0:Int32), (0:Int32), x14_512, M1, Np, No, Nx, Nq, Nj, rt)) fun q7 =>
    m_MM_array_j566 n rec q7.2.1 q7.2.2.2.1 x11_476 q4 q5 M0 q7.2.2.2.2.2.1 q7.2.2.2.2.2.2.1 q7.2.2.2.2.2.2.2.1 q7.2.2.2.2.2.2.2.2.1 Na q7.2.2.2.2.2.2.2.2.2.1 q7.2.2.2.2.2.2.2.2.2.2.1 q7.2.2.2.2.2.2.2.2.2.2.2
  else
  if x1 = (8:Int32) then
    o_bd (m_MT_member n x3 38 M0) fun q10 =>
    if x1 = (4:Int32) then
      if q10 < 0 then
        m_MM_array_j360 n rec x1 x2 x4 x5_4 (1:Int32) (0:Int32) (0:Int32) M0 M1 Np No Nx Na Nq Nj rt
      else
        o_gd (o_in q10 1000) <|
        m_MM_array_j360 n rec x1 x2 x4 x5_4 (1:Int32) (0:Int32) ((MT_many M0) q10.toNatClampNeg) M0 M1 Np No Nx Na Nq Nj rt
    else
      m_MM_array_j360 n rec x1 x2 x4 x5_4 (1:Int32) (0:Int32) (0:Int32) M0 M1 Np No Nx Na Nq Nj rt
  else
  if x1 = (13:Int32) then
    o_gd (o_in x2 1000) <|
    o_nm ((MT_first M0) x2.toNatClampNeg) fun x11_238 =>
    o_gd (o_in x4 1000) <|
    o_nm ((MT_first M1) x4.toNatClampNeg) fun x12_250 =>
    o_bd (o_lp n (m_MM_array_b252 n rec M0 Na) (x5_4, (1:Int32), (0:Int32), x11_238, x12_250, M1, Np, No, Nx, Nq, Nj, rt)) fun q12 =>
    o_gd (o_zb q12.2.2.1) <|
    some (q12.2.2.1, q12.2.2.2.2.2.2.1, q12.2.2.2.2.2.2.2.1, q12.2.2.2.2.2.2.2.2.1, q12.2.2.2.2.2.2.2.2.2.1, q12.2.2.2.2.2.2.2.2.2.2.1, (NJ_mk (NJ_judged q12.2.2.2.2.2.2.2.2.2.2.2.1) (NJ_deepest q12.2.2.2.2.2.2.2.2.2.2.2.1) (NJ_depth q12.2.2.2.2.2.2.2.2.2.2.2.1) (NJ_over q12.2.2.2.2.2.2.2.2.2.2.2.1) q12.2.1), q12.2.2.2.2.2.2.2.2.2.2.2.2)
  else
  if x1 = (25:Int32) then
    o_bd (m_MM_intOf n x2 M0) fun q13 =>
    if q13 < x8_19 then
      some ((0:Int32), M1, Np, No, Nx, Nq, Nj, rt)
    else
      some ((1:Int32), M1, Np, No, Nx, Nq, Nj, rt)
  else
  if x1 = (26:Int32) then
    o_bd (m_MM_intOf n x2 M0) fun q14 =>
    if x8_19 < q14 then
      some ((0:Int32), M1, Np, No, Nx, Nq, Nj, rt)
    else
      some ((1:Int32), M1, Np, No, Nx, Nq, Nj, rt)
  else
  if x1 = (37:Int32) then
    o_gd (o_in x2 1000) <|
    if ((MT_kind M0) x2.toNatClampNeg) = (1:Int32) then
      some ((1:Int32), M1, Np, No, Nx, Nq, Nj, rt)
    else
      o_gd (o_in x4 1000) <|
      o_nm ((MT_first M1) x4.toNatClampNeg) fun x11_153 =>
      o_bd (o_lp n (m_MM_array_b155 n rec M0 M1 Np No Nx Na Nq Nj rt) (x11_153)) fun q17 =>
      if q17.1 = 1 then
        some ((0:Int32), M1, Np, No, Nx, Nq, Nj, rt)
      else
      some ((1:Int32), M1, Np, No, Nx, Nq, Nj, rt)
  else
  some ((1:Int32), M1, Np, No, Nx, Nq, Nj, rt)
def m_MM_dependent_j82 (n : Nat) (rec : Int32 → Int32 → SMT → SMT → SNP → SNO → SNX → SNA → SNQ → SNJ → Nat → Option (Int32 × SMT × SNP × SNO × SNX × SNQ × SNJ × Nat)) (x2 : Int32) (x3 : Int64) (x5 : Int32) (x6 : Int32) (M0 : SMT) (M1 : SMT) (Np : SNP) (No : SNO) (Nx : SNX) (Na : SNA) (Nq : SNQ) (Nj : SNJ) (rt : Nat) : Option (Nat × Int64 × Int32 × Int32 × SMT × SNP × SNO × SNX × SNQ × SNJ × Nat) :=
  o_gd (o_in x6 1000) <|
  o_nm ((MT_next M0) x6.toNatClampNeg) fun x6_92 =>
  some (0, x3, x5, x6_92, M1, Np, No, Nx, Nq, Nj, rt)
def m_MM_dependent_b19 (n : Nat) (rec : Int32 → Int32 → SMT → SMT → SNP → SNO → SNX → SNA → SNQ → SNJ → Nat → Option (Int32 × SMT × SNP × SNO × SNX × SNQ × SNJ × Nat)) (x2 : Int32) (M0 : SMT) (Na : SNA) (z : Int64 × Int32 × Int32 × SMT × SNP × SNO × SNX × SNQ × SNJ × Nat) : Option (Nat × Int64 × Int32 × Int32 × SMT × SNP × SNO × SNX × SNQ × SNJ × Nat) :=
  if z.2.2.1 < 0 then
    some (1, z.1, z.2.1, z.2.2.1, z.2.2.2.1, z.2.2.2.2.1, z.2.2.2.2.2.1, z.2.2.2.2.2.2.1, z.2.2.2.2.2.2.2.1, z.2.2.2.2.2.2.2.2.1, z.2.2.2.2.2.2.2.2.2)
  else
    if (NJ_over z.2.2.2.2.2.2.2.2.1) = 0 then
      o_gd (o_in z.2.2.1 1000) <|
      o_bd (m_MT_member_1 n x2 ((MT_name M0) z.2.2.1.toNatClampNeg) z.2.2.2.1 M0) fun q1 =>
      if 0 ≤ q1 then
        o_bd (rec z.2.2.1 x2 M0 z.2.2.2.1 z.2.2.2.2.1 z.2.2.2.2.2.1 z.2.2.2.2.2.2.1 Na z.2.2.2.2.2.2.2.1 z.2.2.2.2.2.2.2.2.1 z.2.2.2.2.2.2.2.2.2) fun q2 =>
        if q2.1 = 0 then
          m_MM_dependent_j82 n rec x2 z.1 (0:Int32) z.2.2.1 M0 q2.2.1 q2.2.2.1 q2.2.2.2.1 q2.2.2.2.2.1 Na q2.2.2.2.2.2.1 q2.2.2.2.2.2.2.1 q2.2.2.2.2.2.2.2
        else
          o_nm (z.1 ||| (NJ_seen q2.2.2.2.2.2.2.1)) fun x3_75 =>
          m_MM_dependent_j82 n rec x2 x3_75 z.2.1 z.2.2.1 M0 q2.2.1 q2.2.2.1 q2.2.2.2.1 q2.2.2.2.2.1 Na q2.2.2.2.2.2.1 q2.2.2.2.2.2.2.1 q2.2.2.2.2.2.2.2
      else
        m_MM_dependent_j82 n rec x2 z.1 z.2.1 z.2.2.1 M0 z.2.2.2.1 z.2.2.2.2.1 z.2.2.2.2.2.1 z.2.2.2.2.2.2.1 Na z.2.2.2.2.2.2.2.1 z.2.2.2.2.2.2.2.2.1 z.2.2.2.2.2.2.2.2.2
    else
      some (1, z.1, z.2.1, z.2.2.1, z.2.2.2.1, z.2.2.2.2.1, z.2.2.2.2.2.1, z.2.2.2.2.2.2.1, z.2.2.2.2.2.2.2.1, z.2.2.2.2.2.2.2.2.1, z.2.2.2.2.2.2.2.2.2)
def m_MM_dependent (n : Nat) (rec : Int32 → Int32 → SMT → SMT → SNP → SNO → SNX → SNA → SNQ → SNJ → Nat → Option (Int32 × SMT × SNP × SNO × SNX × SNQ × SNJ × Nat)) (x1 : Int32) (x2 : Int32) (M0 : SMT) (M1 : SMT) (Np : SNP) (No : SNO) (Nx : SNX) (Na : SNA) (Nq : SNQ) (Nj : SNJ) (rt : Nat) : Option (Int32 × SMT × SNP × SNO × SNX × SNQ × SNJ × Nat) :=
  o_nm (NJ_seen Nj) fun x3_4 =>
  o_gd (o_in x1 1000) <|
  o_nm ((MT_first M0) x1.toNatClampNeg) fun x6_17 =>
  o_bd (o_lp n (m_MM_dependent_b19 n rec x2 M0 Na) (x3_4, (1:Int32), x6_17, M1, Np, No, Nx, Nq, Nj, rt)) fun q3 =>
  o_gd (o_zb q3.2.2.1) <|
  some (q3.2.2.1, q3.2.2.2.2.1, q3.2.2.2.2.2.1, q3.2.2.2.2.2.2.1, q3.2.2.2.2.2.2.2.1, q3.2.2.2.2.2.2.2.2.1, (NJ_mk (NJ_judged q3.2.2.2.2.2.2.2.2.2.1) (NJ_deepest q3.2.2.2.2.2.2.2.2.2.1) (NJ_depth q3.2.2.2.2.2.2.2.2.2.1) (NJ_over q3.2.2.2.2.2.2.2.2.2.1) q3.2.1), q3.2.2.2.2.2.2.2.2.2.2)
def m_MM_several_j69 (n : Nat) (rec : Int32 → Int32 → SMT → SMT → SNP → SNO → SNX → SNA → SNQ → SNJ → Nat → Option (Int32 × SMT × SNP × SNO × SNX × SNQ × SNJ × Nat)) (x1 : Int32) (x3 : Int32) (x4 : Int64) (x6 : Int32) (x7 : Int32) (x8 : Int32) (x9 : Int32) (M0 : SMT) (M1 : SMT) (Np : SNP) (No : SNO) (Nx : SNX) (Na : SNA) (Nq : SNQ) (Nj : SNJ) (rt : Nat) : Option (Nat × Int64 × Int32 × Int32 × Int32 × SMT × SNP × SNO × SNX × SNQ × SNJ × Nat) :=
  o_gd (o_in x9 1000) <|
  o_nm ((MT_next M0) x9.toNatClampNeg) fun x9_79 =>
  some (0, x4, x7, x8, x9_79, M1, Np, No, Nx, Nq, Nj, rt)
def m_MM_several_b29 (n : Nat) (rec : Int32 → Int32 → SMT → SMT → SNP → SNO → SNX → SNA → SNQ → SNJ → Nat → Option (Int32 × SMT × SNP × SNO × SNX × SNQ × SNJ × Nat)) (x1 : Int32) (x3 : Int32) (x6 : Int32) (M0 : SMT) (Na : SNA) (z : Int64 × Int32 × Int32 × Int32 × SMT × SNP × SNO × SNX × SNQ × SNJ × Nat) : Option (Nat × Int64 × Int32 × Int32 × Int32 × SMT × SNP × SNO × SNX × SNQ × SNJ × Nat) :=
  if z.2.2.2.1 < 0 then
    some (1, z.1, z.2.1, z.2.2.1, z.2.2.2.1, z.2.2.2.2.1, z.2.2.2.2.2.1, z.2.2.2.2.2.2.1, z.2.2.2.2.2.2.2.1, z.2.2.2.2.2.2.2.2.1, z.2.2.2.2.2.2.2.2.2.1, z.2.2.2.2.2.2.2.2.2.2)
  else
    if (NJ_over z.2.2.2.2.2.2.2.2.2.1) = 0 then
      o_nm (z.2.2.1 + (1:Int32)) fun x8_41 =>
      o_bd (rec z.2.2.2.1 x3 M0 z.2.2.2.2.1 z.2.2.2.2.2.1 z.2.2.2.2.2.2.1 z.2.2.2.2.2.2.2.1 Na z.2.2.2.2.2.2.2.2.1 z.2.2.2.2.2.2.2.2.2.1 z.2.2.2.2.2.2.2.2.2.2) fun q1 =>
      if q1.1 = 0 then
        m_MM_several_j69 n rec x1 x3 z.1 x6 z.2.1 x8_41 z.2.2.2.1 M0 q1.2.1 q1.2.2.1 q1.2.2.2.1 q1.2.2.2.2.1 Na q1.2.2.2.2.2.1 q1.2.2.2.2.2.2.1 q1.2.2.2.2.2.2.2
      else
        o_nm (z.2.1 + (1:Int32)) fun x7_57 =>
        o_nm (z.1 ||| (NJ_seen q1.2.2.2.2.2.2.1)) fun x4_67 =>
        m_MM_several_j69 n rec x1 x3 x4_67 x6 x7_57 x8_41 z.2.2.2.1 M0 q1.2.1 q1.2.2.1 q1.2.2.2.1 q1.2.2.2.2.1 Na q1.2.2.2.2.2.1 q1.2.2.2.2.2.2.1 q1.2.2.2.2.2.2.2
    else
      some (1, z.1, z.2.1, z.2.2.1, z.2.2.2.1, z.2.2.2.2.1, z.2.2.2.2.2.1, z.2.2.2.2.2.2.1, z.2.2.2.2.2.2.2.1, z.2.2.2.2.2.2.2.2.1, z.2.2.2.2.2.2.2.2.2.1, z.2.2.2.2.2.2.2.2.2.2)
def m_MM_several_j141 (n : Nat) (rec : Int32 → Int32 → SMT → SMT → SNP → SNO → SNX → SNA → SNQ → SNJ → Nat → Option (Int32 × SMT × SNP × SNO × SNX × SNQ × SNJ × Nat)) (x1 : Int32) (x6 : Int32) (y0 : Int32) (M0 : SMT) (M1 : SMT) (Np : SNP) (No : SNO) (Nx : SNX) (Na : SNA) (Nq : SNQ) (Nj : SNJ) (rt : Nat) : Option (Int32 × SMT × SNP × SNO × SNX × SNQ × SNJ × Nat) :=
  if y0 = 0 then
    o_gd (o_zb y0) <|
    some (y0, M1, Np, No, Nx, Nq, Nj, rt)
  else
    if x1 = (10:Int32) then
      o_gd (o_zb y0) <|
      some (y0, M1, Np, No, Nx, Nq, Nj, rt)
    else
      o_gd (o_zb y0) <|
      some (y0, M1, Np, No, Nx, (NQ_mk (NQ_pairValue Nq) (NQ_pairKey Nq) x6), Nj, rt)
def m_MM_several_j84 (n : Nat) (rec : Int32 → Int32 → SMT → SMT → SNP → SNO → SNX → SNA → SNQ → SNJ → Nat → Option (Int32 × SMT × SNP × SNO × SNX × SNQ × SNJ × Nat)) (x1 : Int32) (x4 : Int64) (x6 : Int32) (x7 : Int32) (x8 : Int32) (M0 : SMT) (M1 : SMT) (Np : SNP) (No : SNO) (Nx : SNX) (Na : SNA) (Nq : SNQ) (Nj : SNJ) (rt : Nat) : Option (Int32 × SMT × SNP × SNO × SNX × SNQ × SNJ × Nat) :=
  if x1 = (10:Int32) then
    if x7 = x8 then
      m_MM_several_j141 n rec x1 x6 (1:Int32) M0 M1 Np No Nx Na Nq (NJ_mk (NJ_judged Nj) (NJ_deepest Nj) (NJ_depth Nj) (NJ_over Nj) x4) rt
    else
      m_MM_several_j141 n rec x1 x6 (0:Int32) M0 M1 Np No Nx Na Nq (NJ_mk (NJ_judged Nj) (NJ_deepest Nj) (NJ_depth Nj) (NJ_over Nj) x4) rt
  else
    if x1 = (11:Int32) then
      if x7 ≤ 0 then
        m_MM_several_j141 n rec x1 x6 (0:Int32) M0 M1 Np No Nx Na Nq (NJ_mk (NJ_judged Nj) (NJ_deepest Nj) (NJ_depth Nj) (NJ_over Nj) x4) rt
      else
        m_MM_several_j141 n rec x1 x6 (1:Int32) M0 M1 Np No Nx Na Nq (NJ_mk (NJ_judged Nj) (NJ_deepest Nj) (NJ_depth Nj) (NJ_over Nj) x4) rt
    else
      if x7 = (1:Int32) then
        m_MM_several_j141 n rec x1 x6 (1:Int32) M0 M1 Np No Nx Na Nq (NJ_mk (NJ_judged Nj) (NJ_deepest Nj) (NJ_depth Nj) (NJ_over Nj) x4) rt
      else
        m_MM_several_j141 n rec x1 x6 (0:Int32) M0 M1 Np No Nx Na Nq (NJ_mk (NJ_judged Nj) (NJ_deepest Nj) (NJ_depth Nj) (NJ_over Nj) x4) rt
def m_MM_several (n : Nat) (rec : Int32 → Int32 → SMT → SMT → SNP → SNO → SNX → SNA → SNQ → SNJ → Nat → Option (Int32 × SMT × SNP × SNO × SNX × SNQ × SNJ × Nat)) (x1 : Int32) (x2 : Int32) (x3 : Int32) (M0 : SMT) (M1 : SMT) (Np : SNP) (No : SNO) (Nx : SNX) (Na : SNA) (Nq : SNQ) (Nj : SNJ) (rt : Nat) : Option (Int32 × SMT × SNP × SNO × SNX × SNQ × SNJ × Nat) :=
  o_nm (NJ_seen Nj) fun x4_4 =>
  o_nm (NQ_pairs Nq) fun x6_10 =>
  o_gd (o_in x2 1000) <|
  o_nm ((MT_first M0) x2.toNatClampNeg) fun x9_27 =>
  o_bd (o_lp n (m_MM_several_b29 n rec x1 x3 x6_10 M0 Na) (x4_4, (0:Int32), (0:Int32), x9_27, M1, Np, No, Nx, Nq, Nj, rt)) fun q2 =>
  m_MM_several_j84 n rec x1 q2.2.1 x6_10 q2.2.2.1 q2.2.2.2.1 M0 q2.2.2.2.2.2.1 q2.2.2.2.2.2.2.1 q2.2.2.2.2.2.2.2.1 q2.2.2.2.2.2.2.2.2.1 Na q2.2.2.2.2.2.2.2.2.2.1 q2.2.2.2.2.2.2.2.2.2.2.1 q2.2.2.2.2.2.2.2.2.2.2.2
def m_MM_ifs_j57 (n : Nat) (rec : Int32 → Int32 → SMT → SMT → SNP → SNO → SNX → SNA → SNQ → SNJ → Nat → Option (Int32 × SMT × SNP × SNO × SNX × SNQ × SNJ × Nat)) (x3 : Int32) (x4 : Int64) (y1 : Int32) (y2 : Nat) (M0 : SMT) (M1 : SMT) (Np : SNP) (No : SNO) (Nx : SNX) (Na : SNA) (Nq : SNQ) (Nj : SNJ) (rt : Nat) : Option (Int32 × SMT × SNP × SNO × SNX × SNQ × SNJ × Nat) :=
  o_bd (m_MT_member n y1 y2 M0) fun q2 =>
  if q2 < 0 then
    some ((1:Int32), M1, Np, No, Nx, Nq, (NJ_mk (NJ_judged Nj) (NJ_deepest Nj) (NJ_depth Nj) (NJ_over Nj) x4), rt)
  else
    if (NJ_over Nj) = 0 then
      o_bd (rec q2 x3 M0 M1 Np No Nx Na Nq Nj rt) fun q3 =>
      if q3.1 = 0 then
        o_bd (m_MM_pair x3 q2 q3.2.2.2.2.2.1) fun q4 =>
        o_gd (o_zb q3.1) <|
        some (q3.1, q3.2.1, q3.2.2.1, q3.2.2.2.1, q3.2.2.2.2.1, q4, (NJ_mk (NJ_judged q3.2.2.2.2.2.2.1) (NJ_deepest q3.2.2.2.2.2.2.1) (NJ_depth q3.2.2.2.2.2.2.1) (NJ_over q3.2.2.2.2.2.2.1) x4), q3.2.2.2.2.2.2.2)
      else
        o_nm (x4 ||| (NJ_seen q3.2.2.2.2.2.2.1)) fun x4_98 =>
        o_gd (o_zb q3.1) <|
        some (q3.1, q3.2.1, q3.2.2.1, q3.2.2.2.1, q3.2.2.2.2.1, q3.2.2.2.2.2.1, (NJ_mk (NJ_judged q3.2.2.2.2.2.2.1) (NJ_deepest q3.2.2.2.2.2.2.1) (NJ_depth q3.2.2.2.2.2.2.1) (NJ_over q3.2.2.2.2.2.2.1) x4_98), q3.2.2.2.2.2.2.2)
    else
      some ((1:Int32), M1, Np, No, Nx, Nq, (NJ_mk (NJ_judged Nj) (NJ_deepest Nj) (NJ_depth Nj) (NJ_over Nj) x4), rt)
def m_MM_ifs_j40 (n : Nat) (rec : Int32 → Int32 → SMT → SMT → SNP → SNO → SNX → SNA → SNQ → SNJ → Nat → Option (Int32 × SMT × SNP × SNO × SNX × SNQ × SNJ × Nat)) (x2 : Int32) (x3 : Int32) (x4 : Int64) (x7 : Int32) (M0 : SMT) (M1 : SMT) (Np : SNP) (No : SNO) (Nx : SNX) (Na : SNA) (Nq : SNQ) (Nj : SNJ) (rt : Nat) : Option (Int32 × SMT × SNP × SNO × SNX × SNQ × SNJ × Nat) :=
  if x7 = 0 then
    m_MM_ifs_j57 n rec x3 x4 x2 28 M0 M1 Np No Nx Na Nq Nj rt
  else
    m_MM_ifs_j57 n rec x3 x4 x2 27 M0 M1 Np No Nx Na Nq Nj rt
def m_MM_ifs (n : Nat) (rec : Int32 → Int32 → SMT → SMT → SNP → SNO → SNX → SNA → SNQ → SNJ → Nat → Option (Int32 × SMT × SNP × SNO × SNX × SNQ × SNJ × Nat)) (x1 : Int32) (x2 : Int32) (x3 : Int32) (M0 : SMT) (M1 : SMT) (Np : SNP) (No : SNO) (Nx : SNX) (Na : SNA) (Nq : SNQ) (Nj : SNJ) (rt : Nat) : Option (Int32 × SMT × SNP × SNO × SNX × SNQ × SNJ × Nat) :=
  o_nm (NJ_seen Nj) fun x4_4 =>
  o_nm (NQ_pairs Nq) fun x6_10 =>
  o_bd (rec x1 x3 M0 M1 Np No Nx Na Nq Nj rt) fun q1 =>
  if q1.1 = 0 then
    m_MM_ifs_j40 n rec x2 x3 x4_4 q1.1 M0 q1.2.1 q1.2.2.1 q1.2.2.2.1 q1.2.2.2.2.1 Na (NQ_mk (NQ_pairValue q1.2.2.2.2.2.1) (NQ_pairKey q1.2.2.2.2.2.1) x6_10) q1.2.2.2.2.2.2.1 q1.2.2.2.2.2.2.2
  else
    o_nm (x4_4 ||| (NJ_seen q1.2.2.2.2.2.2.1)) fun x4_38 =>
    m_MM_ifs_j40 n rec x2 x3 x4_38 q1.1 M0 q1.2.1 q1.2.2.1 q1.2.2.2.1 q1.2.2.2.2.1 Na (NQ_mk (NQ_pairValue q1.2.2.2.2.2.1) (NQ_pairKey q1.2.2.2.2.2.1) x6_10) q1.2.2.2.2.2.2.1 q1.2.2.2.2.2.2.2
def m_MM_asks_b234 (n : Nat) (rec : Int32 → Int32 → SMT → SMT → SNP → SNO → SNX → SNA → SNQ → SNJ → Nat → Option (Int32 × SMT × SNP × SNO × SNX × SNQ × SNJ × Nat)) (x4 : Int32) (M0 : SMT) (M1 : SMT) (Np : SNP) (No : SNO) (Nx : SNX) (Na : SNA) (Nq : SNQ) (Nj : SNJ) (rt : Nat) (z : Int32) : Option (Nat × Int32) :=
  if z < 0 then
    some (2, z)
  else
    o_bd (m_MT_alike n 1003 x4 z M1 M0) fun q8 =>
    if q8 = 0 then
      o_gd (o_in z 1000) <|
      o_nm ((MT_next M0) z.toNatClampNeg) fun x8_269 =>
      some (0, x8_269)
    else
      some (1, z)
def m_MM_asks_j203 (n : Nat) (rec : Int32 → Int32 → SMT → SMT → SNP → SNO → SNX → SNA → SNQ → SNJ → Nat → Option (Int32 × SMT × SNP × SNO × SNX × SNQ × SNJ × Nat)) (x1 : Int32) (x2 : Int32) (x3 : Int32) (x4 : Int32) (x7 : Int32) (M0 : SMT) (M1 : SMT) (Np : SNP) (No : SNO) (Nx : SNX) (Na : SNA) (Nq : SNQ) (Nj : SNJ) (rt : Nat) : Option (Int32 × SMT × SNP × SNO × SNX × SNQ × SNJ × Nat) :=
  if x1 = (34:Int32) then
    o_bd (m_MM_isType n x2 x4 M0 M1) fun q10 =>
    o_gd (o_zb q10) <|
    some (q10, M1, Np, No, Nx, Nq, Nj, rt)
  else
    if x1 = (35:Int32) then
      o_gd (o_in x2 1000) <|
      o_nm ((MT_first M0) x2.toNatClampNeg) fun x8_232 =>
      o_bd (o_lp n (m_MM_asks_b234 n rec x4 M0 M1 Np No Nx Na Nq Nj rt) (x8_232)) fun q9 =>
      if q9.1 = 1 then
        some ((1:Int32), M1, Np, No, Nx, Nq, Nj, rt)
      else
      some ((0:Int32), M1, Np, No, Nx, Nq, Nj, rt)
    else
      if x1 = (36:Int32) then
        o_bd (m_MT_alike n 1003 x4 x2 M1 M0) fun q7 =>
        o_gd (o_zb q7) <|
        some (q7, M1, Np, No, Nx, Nq, Nj, rt)
      else
        if x7 = (4:Int32) then
          if x1 = (23:Int32) then
            o_gd (o_in x4 1000) <|
            o_bd (m_MM_intOf n x2 M0) fun q6 =>
            if q6 < ((MT_many M1) x4.toNatClampNeg) then
              some ((0:Int32), M1, Np, No, Nx, Nq, Nj, rt)
            else
              some ((1:Int32), M1, Np, No, Nx, Nq, Nj, rt)
          else
            if x1 = (24:Int32) then
              o_gd (o_in x4 1000) <|
              o_bd (m_MM_intOf n x2 M0) fun q5 =>
              if ((MT_many M1) x4.toNatClampNeg) < q5 then
                some ((0:Int32), M1, Np, No, Nx, Nq, Nj, rt)
              else
                some ((1:Int32), M1, Np, No, Nx, Nq, Nj, rt)
            else
              if x1 = (31:Int32) then
                o_bd (m_MM_isPattern n x2 M0 Np No) fun q3 =>
                if q3.1 = 0 then
                  some ((0:Int32), M1, q3.2.1, q3.2.2, Nx, Nq, Nj, (33))
                else
                  o_bd (m_MM_matches n x4 M1 q3.2.1 q3.2.2 Nx) fun q4 =>
                  if q4.1 = 0 then
                    some ((0:Int32), M1, q3.2.1, q3.2.2, q4.2, Nq, Nj, (33))
                  else
                    some ((1:Int32), M1, q3.2.1, q3.2.2, q4.2, Nq, Nj, (33))
              else
                some ((1:Int32), M1, Np, No, Nx, Nq, Nj, rt)
        else
          if x7 = (5:Int32) then
            o_bd (m_MM_array n rec x1 x2 x3 x4 M0 M1 Np No Nx Na Nq Nj rt) fun q2 =>
            o_gd (o_zb q2.1) <|
            some (q2.1, q2.2.1, q2.2.2.1, q2.2.2.2.1, q2.2.2.2.2.1, q2.2.2.2.2.2.1, q2.2.2.2.2.2.2.1, q2.2.2.2.2.2.2.2)
          else
            if x7 = (6:Int32) then
              o_bd (m_MM_object n rec x1 x2 x3 x4 M0 M1 Np No Nx Na Nq Nj rt) fun q1 =>
              if q1.1 = 0 then
                some ((0:Int32), q1.2.1, q1.2.2.1, q1.2.2.2.1, q1.2.2.2.2.1, q1.2.2.2.2.2.1, q1.2.2.2.2.2.2.1, q1.2.2.2.2.2.2.2)
              else
                some ((1:Int32), q1.2.1, q1.2.2.1, q1.2.2.2.1, q1.2.2.2.2.1, q1.2.2.2.2.2.1, q1.2.2.2.2.2.2.1, q1.2.2.2.2.2.2.2)
            else
              some ((1:Int32), M1, Np, No, Nx, Nq, Nj, rt)
def m_MM_asks_j139 (n : Nat) (rec : Int32 → Int32 → SMT → SMT → SNP → SNO → SNX → SNA → SNQ → SNJ → Nat → Option (Int32 × SMT × SNP × SNO × SNX × SNQ × SNJ × Nat)) (x1 : Int32) (x2 : Int32) (x3 : Int32) (x4 : Int32) (x7 : Int32) (M0 : SMT) (M1 : SMT) (Np : SNP) (No : SNO) (Nx : SNX) (Na : SNA) (Nq : SNQ) (Nj : SNJ) (rt : Nat) : Option (Int32 × SMT × SNP × SNO × SNX × SNQ × SNJ × Nat) :=
  if x1 = (17:Int32) then
    if x7 = (6:Int32) then
      o_bd (m_MM_dependent n rec x2 x4 M0 M1 Np No Nx Na Nq Nj rt) fun q12 =>
      if q12.1 = 0 then
        some ((0:Int32), q12.2.1, q12.2.2.1, q12.2.2.2.1, q12.2.2.2.2.1, q12.2.2.2.2.2.1, q12.2.2.2.2.2.2.1, q12.2.2.2.2.2.2.2)
      else
        some ((1:Int32), q12.2.1, q12.2.2.1, q12.2.2.2.1, q12.2.2.2.2.1, q12.2.2.2.2.2.1, q12.2.2.2.2.2.2.1, q12.2.2.2.2.2.2.2)
    else
      some ((1:Int32), M1, Np, No, Nx, Nq, Nj, rt)
  else
    if x1 < (18:Int32) then
      m_MM_asks_j203 n rec x1 x2 x3 x4 x7 M0 M1 Np No Nx Na Nq Nj rt
    else
      if (22:Int32) < x1 then
        m_MM_asks_j203 n rec x1 x2 x3 x4 x7 M0 M1 Np No Nx Na Nq Nj rt
      else
        if x7 = (3:Int32) then
          o_bd (m_MM_number_1 n x1 x2 x4 M0 M1) fun q11 =>
          if q11.1 = 0 then
            some ((0:Int32), q11.2, Np, No, Nx, Nq, Nj, rt)
          else
            some ((1:Int32), q11.2, Np, No, Nx, Nq, Nj, rt)
        else
          some ((1:Int32), M1, Np, No, Nx, Nq, Nj, rt)
def m_MM_asks (n : Nat) (rec : Int32 → Int32 → SMT → SMT → SNP → SNO → SNX → SNA → SNQ → SNJ → Nat → Option (Int32 × SMT × SNP × SNO × SNX × SNQ × SNJ × Nat)) (x1 : Int32) (x2 : Int32) (x3 : Int32) (x4 : Int32) (M0 : SMT) (M1 : SMT) (Np : SNP) (No : SNO) (Nx : SNX) (Na : SNA) (Nq : SNQ) (Nj : SNJ) (rt : Nat) : Option (Int32 × SMT × SNP × SNO × SNX × SNQ × SNJ × Nat) :=
  o_nm (NJ_seen Nj) fun x5_4 =>
  o_gd (o_in x4 1000) <|
  o_nm ((MT_kind M1) x4.toNatClampNeg) fun x7_16 =>
  if x1 = (32:Int32) then
    o_gd (o_in x2 1000) <|
    o_bd (rec ((NA_target Na) x2.toNatClampNeg) x4 M0 M1 Np No Nx Na Nq Nj rt) fun q16 =>
    if q16.1 = 0 then
      o_gd (o_zb q16.1) <|
      some (q16.1, q16.2.1, q16.2.2.1, q16.2.2.2.1, q16.2.2.2.2.1, q16.2.2.2.2.2.1, (NJ_mk (NJ_judged q16.2.2.2.2.2.2.1) (NJ_deepest q16.2.2.2.2.2.2.1) (NJ_depth q16.2.2.2.2.2.2.1) (NJ_over q16.2.2.2.2.2.2.1) x5_4), q16.2.2.2.2.2.2.2)
    else
      o_gd (o_zb q16.1) <|
      some (q16.1, q16.2.1, q16.2.2.1, q16.2.2.2.1, q16.2.2.2.2.1, q16.2.2.2.2.2.1, (NJ_mk (NJ_judged q16.2.2.2.2.2.2.1) (NJ_deepest q16.2.2.2.2.2.2.1) (NJ_depth q16.2.2.2.2.2.2.1) (NJ_over q16.2.2.2.2.2.2.1) (x5_4 ||| (NJ_seen q16.2.2.2.2.2.2.1))), q16.2.2.2.2.2.2.2)
  else
    if x1 = 0 then
      o_nm (NQ_pairs Nq) fun x8_70 =>
      o_bd (rec x2 x4 M0 M1 Np No Nx Na Nq Nj rt) fun q15 =>
      if q15.1 = 0 then
        some ((1:Int32), q15.2.1, q15.2.2.1, q15.2.2.2.1, q15.2.2.2.2.1, (NQ_mk (NQ_pairValue q15.2.2.2.2.2.1) (NQ_pairKey q15.2.2.2.2.2.1) x8_70), (NJ_mk (NJ_judged q15.2.2.2.2.2.2.1) (NJ_deepest q15.2.2.2.2.2.2.1) (NJ_depth q15.2.2.2.2.2.2.1) (NJ_over q15.2.2.2.2.2.2.1) x5_4), q15.2.2.2.2.2.2.2)
      else
        some ((0:Int32), q15.2.1, q15.2.2.1, q15.2.2.2.1, q15.2.2.2.2.1, (NQ_mk (NQ_pairValue q15.2.2.2.2.2.1) (NQ_pairKey q15.2.2.2.2.2.1) x8_70), (NJ_mk (NJ_judged q15.2.2.2.2.2.2.1) (NJ_deepest q15.2.2.2.2.2.2.1) (NJ_depth q15.2.2.2.2.2.2.1) (NJ_over q15.2.2.2.2.2.2.1) x5_4), q15.2.2.2.2.2.2.2)
    else
      if x1 = (1:Int32) then
        o_bd (m_MM_ifs n rec x2 x3 x4 M0 M1 Np No Nx Na Nq Nj rt) fun q14 =>
        o_gd (o_zb q14.1) <|
        some (q14.1, q14.2.1, q14.2.2.1, q14.2.2.2.1, q14.2.2.2.2.1, q14.2.2.2.2.2.1, q14.2.2.2.2.2.2.1, q14.2.2.2.2.2.2.2)
      else
        if x1 < (10:Int32) then
          m_MM_asks_j139 n rec x1 x2 x3 x4 x7_16 M0 M1 Np No Nx Na Nq Nj rt
        else
          if (12:Int32) < x1 then
            m_MM_asks_j139 n rec x1 x2 x3 x4 x7_16 M0 M1 Np No Nx Na Nq Nj rt
          else
            o_bd (m_MM_several n rec x1 x2 x4 M0 M1 Np No Nx Na Nq Nj rt) fun q13 =>
            o_gd (o_zb q13.1) <|
            some (q13.1, q13.2.1, q13.2.2.1, q13.2.2.2.1, q13.2.2.2.2.1, q13.2.2.2.2.2.1, q13.2.2.2.2.2.2.1, q13.2.2.2.2.2.2.2)
def m_MM_judge_j45 (n : Nat) (rec : Int32 → Int32 → SMT → SMT → SNP → SNO → SNX → SNA → SNQ → SNJ → Nat → Option (Int32 × SMT × SNP × SNO × SNX × SNQ × SNJ × Nat)) (M0 : SMT) (M1 : SMT) (Np : SNP) (No : SNO) (Nx : SNX) (Na : SNA) (Nq : SNQ) (Nj : SNJ) (rt : Nat) : Option (Int32 × SMT × SNP × SNO × SNX × SNQ × SNJ × Nat) :=
  some ((0:Int32), M1, Np, No, Nx, Nq, (NJ_mk (NJ_judged Nj) (NJ_deepest Nj) ((NJ_depth Nj) - (1:Int32)) (1:Int32) (NJ_seen Nj)), rt)
def m_MM_judge_j294 (n : Nat) (rec : Int32 → Int32 → SMT → SMT → SNP → SNO → SNX → SNA → SNQ → SNJ → Nat → Option (Int32 × SMT × SNP × SNO × SNX × SNQ × SNJ × Nat)) (x3 : Int32) (x4 : Int64) (M0 : SMT) (M1 : SMT) (Np : SNP) (No : SNO) (Nx : SNX) (Na : SNA) (Nq : SNQ) (Nj : SNJ) (rt : Nat) : Option (Int32 × SMT × SNP × SNO × SNX × SNQ × SNJ × Nat) :=
  if x3 = 0 then
    some ((0:Int32), M1, Np, No, Nx, Nq, (NJ_mk (NJ_judged Nj) (NJ_deepest Nj) ((NJ_depth Nj) - (1:Int32)) (NJ_over Nj) x4), rt)
  else
    if (NJ_over Nj) = 0 then
      some ((1:Int32), M1, Np, No, Nx, Nq, (NJ_mk (NJ_judged Nj) (NJ_deepest Nj) ((NJ_depth Nj) - (1:Int32)) (NJ_over Nj) x4), rt)
    else
      some ((0:Int32), M1, Np, No, Nx, Nq, (NJ_mk (NJ_judged Nj) (NJ_deepest Nj) ((NJ_depth Nj) - (1:Int32)) (NJ_over Nj) x4), rt)
def m_MM_judge_j273 (n : Nat) (rec : Int32 → Int32 → SMT → SMT → SNP → SNO → SNX → SNA → SNQ → SNJ → Nat → Option (Int32 × SMT × SNP × SNO × SNX × SNQ × SNJ × Nat)) (x1 : Int32) (x2 : Int32) (x3 : Int32) (x4 : Int64) (x6 : Int32) (x7 : Int32) (M0 : SMT) (M1 : SMT) (Np : SNP) (No : SNO) (Nx : SNX) (Na : SNA) (Nq : SNQ) (Nj : SNJ) (rt : Nat) : Option (Nat × Int32 × Int64 × Int32 × SMT × SNP × SNO × SNX × SNQ × SNJ × Nat) :=
  o_gd (o_in x7 1000) <|
  o_nm ((MT_next M0) x7.toNatClampNeg) fun x7_283 =>
  some (0, x3, x4, x7_283, M1, Np, No, Nx, Nq, Nj, rt)
def m_MM_judge_j217 (n : Nat) (rec : Int32 → Int32 → SMT → SMT → SNP → SNO → SNX → SNA → SNQ → SNJ → Nat → Option (Int32 × SMT × SNP × SNO × SNX × SNQ × SNJ × Nat)) (x1 : Int32) (x2 : Int32) (x3 : Int32) (x4 : Int64) (x6 : Int32) (x7 : Int32) (x8 : Int32) (y0 : Int32) (y1 : Int32) (M0 : SMT) (M1 : SMT) (Np : SNP) (No : SNO) (Nx : SNX) (Na : SNA) (Nq : SNQ) (Nj : SNJ) (rt : Nat) : Option (Nat × Int32 × Int64 × Int32 × SMT × SNP × SNO × SNX × SNQ × SNJ × Nat) :=
  if y0 = y1 then
    o_bd (m_MM_asks n rec x8 x7 x1 x2 M0 M1 Np No Nx Na Nq (NJ_mk (NJ_judged Nj) (NJ_deepest Nj) (NJ_depth Nj) (NJ_over Nj) x4) rt) fun q1 =>
    o_nm (x4 ||| (NJ_seen q1.2.2.2.2.2.2.1)) fun x4_248 =>
    if q1.1 = 0 then
      if x8 = (1:Int32) then
        m_MM_judge_j273 n rec x1 x2 (0:Int32) x4_248 x6 x7 M0 q1.2.1 q1.2.2.1 q1.2.2.2.1 q1.2.2.2.2.1 Na q1.2.2.2.2.2.1 q1.2.2.2.2.2.2.1 q1.2.2.2.2.2.2.2
      else
        o_bd (m_MM_pair x2 x7 q1.2.2.2.2.2.1) fun q2 =>
        m_MM_judge_j273 n rec x1 x2 (0:Int32) x4_248 x6 x7 M0 q1.2.1 q1.2.2.1 q1.2.2.2.1 q1.2.2.2.2.1 Na q2 q1.2.2.2.2.2.2.1 q1.2.2.2.2.2.2.2
    else
      m_MM_judge_j273 n rec x1 x2 x3 x4_248 x6 x7 M0 q1.2.1 q1.2.2.1 q1.2.2.2.1 q1.2.2.2.2.1 Na q1.2.2.2.2.2.1 q1.2.2.2.2.2.2.1 q1.2.2.2.2.2.2.2
  else
    m_MM_judge_j273 n rec x1 x2 x3 x4 x6 x7 M0 M1 Np No Nx Na Nq Nj rt
def m_MM_judge_j206 (n : Nat) (rec : Int32 → Int32 → SMT → SMT → SNP → SNO → SNX → SNA → SNQ → SNJ → Nat → Option (Int32 × SMT × SNP × SNO × SNX × SNQ × SNJ × Nat)) (x1 : Int32) (x2 : Int32) (x3 : Int32) (x4 : Int64) (x6 : Int32) (x7 : Int32) (x8 : Int32) (y0 : Int32) (M0 : SMT) (M1 : SMT) (Np : SNP) (No : SNO) (Nx : SNX) (Na : SNA) (Nq : SNQ) (Nj : SNJ) (rt : Nat) : Option (Nat × Int32 × Int64 × Int32 × SMT × SNP × SNO × SNX × SNQ × SNJ × Nat) :=
  if x6 = (1:Int32) then
    m_MM_judge_j217 n rec x1 x2 x3 x4 x6 x7 x8 y0 (1:Int32) M0 M1 Np No Nx Na Nq Nj rt
  else
    m_MM_judge_j217 n rec x1 x2 x3 x4 x6 x7 x8 y0 (0:Int32) M0 M1 Np No Nx Na Nq Nj rt
def m_MM_judge_b161 (n : Nat) (rec : Int32 → Int32 → SMT → SMT → SNP → SNO → SNX → SNA → SNQ → SNJ → Nat → Option (Int32 × SMT × SNP × SNO × SNX × SNQ × SNJ × Nat)) (x1 : Int32) (x2 : Int32) (x6 : Int32) (M0 : SMT) (Na : SNA) (z : Int32 × Int64 × Int32 × SMT × SNP × SNO × SNX × SNQ × SNJ × Nat) : Option (Nat × Int32 × Int64 × Int32 × SMT × SNP × SNO × SNX × SNQ × SNJ × Nat) :=
  if z.2.2.1 < 0 then
    some (1, z.1, z.2.1, z.2.2.1, z.2.2.2.1, z.2.2.2.2.1, z.2.2.2.2.2.1, z.2.2.2.2.2.2.1, z.2.2.2.2.2.2.2.1, z.2.2.2.2.2.2.2.2.1, z.2.2.2.2.2.2.2.2.2)
  else
    if (NJ_over z.2.2.2.2.2.2.2.2.1) = 0 then
      o_gd (o_in z.2.2.1 1000) <|
      o_nm ((NA_key Na) z.2.2.1.toNatClampNeg) fun x8_180 =>
      if x8_180 < 0 then
        m_MM_judge_j273 n rec x1 x2 z.1 z.2.1 x6 z.2.2.1 M0 z.2.2.2.1 z.2.2.2.2.1 z.2.2.2.2.2.1 z.2.2.2.2.2.2.1 Na z.2.2.2.2.2.2.2.1 z.2.2.2.2.2.2.2.2.1 z.2.2.2.2.2.2.2.2.2
      else
        if x8_180 = (8:Int32) then
          m_MM_judge_j206 n rec x1 x2 z.1 z.2.1 x6 z.2.2.1 x8_180 (1:Int32) M0 z.2.2.2.1 z.2.2.2.2.1 z.2.2.2.2.2.1 z.2.2.2.2.2.2.1 Na z.2.2.2.2.2.2.2.1 z.2.2.2.2.2.2.2.2.1 z.2.2.2.2.2.2.2.2.2
        else
          if x8_180 = (9:Int32) then
            m_MM_judge_j206 n rec x1 x2 z.1 z.2.1 x6 z.2.2.1 x8_180 (1:Int32) M0 z.2.2.2.1 z.2.2.2.2.1 z.2.2.2.2.2.1 z.2.2.2.2.2.2.1 Na z.2.2.2.2.2.2.2.1 z.2.2.2.2.2.2.2.2.1 z.2.2.2.2.2.2.2.2.2
          else
            m_MM_judge_j206 n rec x1 x2 z.1 z.2.1 x6 z.2.2.1 x8_180 (0:Int32) M0 z.2.2.2.1 z.2.2.2.2.1 z.2.2.2.2.2.1 z.2.2.2.2.2.2.1 Na z.2.2.2.2.2.2.2.1 z.2.2.2.2.2.2.2.2.1 z.2.2.2.2.2.2.2.2.2
    else
      some (1, z.1, z.2.1, z.2.2.1, z.2.2.2.1, z.2.2.2.2.1, z.2.2.2.2.2.1, z.2.2.2.2.2.2.1, z.2.2.2.2.2.2.2.1, z.2.2.2.2.2.2.2.2.1, z.2.2.2.2.2.2.2.2.2)
def m_MM_judge_b144 (n : Nat) (rec : Int32 → Int32 → SMT → SMT → SNP → SNO → SNX → SNA → SNQ → SNJ → Nat → Option (Int32 × SMT × SNP × SNO × SNX × SNQ × SNJ × Nat)) (x1 : Int32) (x2 : Int32) (M0 : SMT) (Na : SNA) (z : Int32 × Int64 × Int32 × SMT × SNP × SNO × SNX × SNQ × SNJ × Nat) : Option (Nat × Int32 × Int64 × Int32 × SMT × SNP × SNO × SNX × SNQ × SNJ × Nat) :=
  if (2:Int32) ≤ z.2.2.1 then
    some (1, z.1, z.2.1, z.2.2.1, z.2.2.2.1, z.2.2.2.2.1, z.2.2.2.2.2.1, z.2.2.2.2.2.2.1, z.2.2.2.2.2.2.2.1, z.2.2.2.2.2.2.2.2.1, z.2.2.2.2.2.2.2.2.2)
  else
    o_gd (o_in x1 1000) <|
    o_nm ((MT_first M0) x1.toNatClampNeg) fun x7_159 =>
    o_bd (o_lp n (m_MM_judge_b161 n rec x1 x2 z.2.2.1 M0 Na) (z.1, z.2.1, x7_159, z.2.2.2.1, z.2.2.2.2.1, z.2.2.2.2.2.1, z.2.2.2.2.2.2.1, z.2.2.2.2.2.2.2.1, z.2.2.2.2.2.2.2.2.1, z.2.2.2.2.2.2.2.2.2)) fun q3 =>
    o_nm (z.2.2.1 + (1:Int32)) fun x6_288 =>
    some (0, q3.2.1, q3.2.2.1, x6_288, q3.2.2.2.2.1, q3.2.2.2.2.2.1, q3.2.2.2.2.2.2.1, q3.2.2.2.2.2.2.2.1, q3.2.2.2.2.2.2.2.2.1, q3.2.2.2.2.2.2.2.2.2.1, q3.2.2.2.2.2.2.2.2.2.2)
def m_MM_judge_j99 (n : Nat) (rec : Int32 → Int32 → SMT → SMT → SNP → SNO → SNX → SNA → SNQ → SNJ → Nat → Option (Int32 × SMT × SNP × SNO × SNX × SNQ × SNJ × Nat)) (x1 : Int32) (x2 : Int32) (y0 : Int32) (M0 : SMT) (M1 : SMT) (Np : SNP) (No : SNO) (Nx : SNX) (Na : SNA) (Nq : SNQ) (Nj : SNJ) (rt : Nat) : Option (Int32 × SMT × SNP × SNO × SNX × SNQ × SNJ × Nat) :=
  o_gd (o_in x1 1000) <|
  if ((MT_kind M0) x1.toNatClampNeg) = (1:Int32) then
    o_bd (m_MM_pair x2 x1 Nq) fun q5 =>
    m_MM_judge_j294 n rec y0 (0:Int64) M0 M1 Np No Nx Na q5 Nj rt
  else
    o_gd (o_in x1 1000) <|
    if ((MT_kind M0) x1.toNatClampNeg) = (6:Int32) then
      o_bd (o_lp n (m_MM_judge_b144 n rec x1 x2 M0 Na) ((1:Int32), (0:Int64), (0:Int32), M1, Np, No, Nx, Nq, Nj, rt)) fun q4 =>
      m_MM_judge_j294 n rec q4.2.1 q4.2.2.1 M0 q4.2.2.2.2.1 q4.2.2.2.2.2.1 q4.2.2.2.2.2.2.1 q4.2.2.2.2.2.2.2.1 Na q4.2.2.2.2.2.2.2.2.1 q4.2.2.2.2.2.2.2.2.2.1 q4.2.2.2.2.2.2.2.2.2.2
    else
      m_MM_judge_j294 n rec y0 (0:Int64) M0 M1 Np No Nx Na Nq Nj rt
def m_MM_judge_j81 (n : Nat) (rec : Int32 → Int32 → SMT → SMT → SNP → SNO → SNX → SNA → SNQ → SNJ → Nat → Option (Int32 × SMT × SNP × SNO × SNX × SNQ × SNJ × Nat)) (x1 : Int32) (x2 : Int32) (M0 : SMT) (M1 : SMT) (Np : SNP) (No : SNO) (Nx : SNX) (Na : SNA) (Nq : SNQ) (Nj : SNJ) (rt : Nat) : Option (Int32 × SMT × SNP × SNO × SNX × SNQ × SNJ × Nat) :=
  o_gd (o_in x1 1000) <|
  if ((MT_kind M0) x1.toNatClampNeg) = (2:Int32) then
    m_MM_judge_j99 n rec x1 x2 (1:Int32) M0 M1 Np No Nx Na Nq Nj rt
  else
    m_MM_judge_j99 n rec x1 x2 (0:Int32) M0 M1 Np No Nx Na Nq Nj rt
def m_MM_judge_F (n : Nat) (rec : Int32 → Int32 → SMT → SMT → SNP → SNO → SNX → SNA → SNQ → SNJ → Nat → Option (Int32 × SMT × SNP × SNO × SNX × SNQ × SNJ × Nat)) (x1 : Int32) (x2 : Int32) (M0 : SMT) (M1 : SMT) (Np : SNP) (No : SNO) (Nx : SNX) (Na : SNA) (Nq : SNQ) (Nj : SNJ) (rt : Nat) : Option (Int32 × SMT × SNP × SNO × SNX × SNQ × SNJ × Nat) :=
  if (NJ_over Nj) = 0 then
    if (20000:Int32) < ((NJ_judged Nj) + (1:Int32)) then
      m_MM_judge_j45 n rec M0 M1 Np No Nx Na Nq (NJ_mk ((NJ_judged Nj) + (1:Int32)) (NJ_deepest Nj) ((NJ_depth Nj) + (1:Int32)) (NJ_over Nj) (NJ_seen Nj)) rt
    else
      if ((NJ_depth Nj) + (1:Int32)) ≤ (100:Int32) then
        if ((NJ_depth Nj) + (1:Int32)) ≤ (NJ_deepest Nj) then
          m_MM_judge_j81 n rec x1 x2 M0 M1 Np No Nx Na Nq (NJ_mk ((NJ_judged Nj) + (1:Int32)) (NJ_deepest Nj) ((NJ_depth Nj) + (1:Int32)) (NJ_over Nj) (NJ_seen Nj)) rt
        else
          m_MM_judge_j81 n rec x1 x2 M0 M1 Np No Nx Na Nq (NJ_mk ((NJ_judged Nj) + (1:Int32)) ((NJ_depth Nj) + (1:Int32)) ((NJ_depth Nj) + (1:Int32)) (NJ_over Nj) (NJ_seen Nj)) rt
      else
        m_MM_judge_j45 n rec M0 M1 Np No Nx Na Nq (NJ_mk ((NJ_judged Nj) + (1:Int32)) (NJ_deepest Nj) ((NJ_depth Nj) + (1:Int32)) (NJ_over Nj) (NJ_seen Nj)) rt
  else
    some ((0:Int32), M1, Np, No, Nx, Nq, Nj, rt)
def m_MM_judge (n : Nat) : Nat → Int32 → Int32 → SMT → SMT → SNP → SNO → SNX → SNA → SNQ → SNJ → Nat → Option (Int32 × SMT × SNP × SNO × SNX × SNQ × SNJ × Nat)
  | 0, _, _, _, _, _, _, _, _, _, _, _ => none
  | d + 1, v0, v1, v2, v3, v4, v5, v6, v7, v8, v9, v10 => m_MM_judge_F n (m_MM_judge n d) v0 v1 v2 v3 v4 v5 v6 v7 v8 v9 v10
def m_MM_sort_j71 (n : Nat) (x1 : Int32) (x2 : Int32) (x3 : Int32) (x4 : Int32) (Nq : SNQ) : Option (Nat × Int32 × SNQ) :=
  o_gd (o_in (x4 - (1:Int32)) 300) <|
  o_gd (o_in x4 300) <|
  o_gd (o_in (x4 - (1:Int32)) 300) <|
  o_gd (o_in x4 300) <|
  o_nm (x4 + (-1:Int32)) fun x4_103 =>
  some (0, x4_103, (NQ_mk (upd (NQ_pairValue Nq) x4.toNatClampNeg ((NQ_pairValue Nq) (x4 - (1:Int32)).toNatClampNeg)) (upd (NQ_pairKey Nq) x4.toNatClampNeg ((NQ_pairKey Nq) (x4 - (1:Int32)).toNatClampNeg)) (NQ_pairs Nq)))
def m_MM_sort_b27 (n : Nat) (x1 : Int32) (x2 : Int32) (x3 : Int32) (z : Int32 × SNQ) : Option (Nat × Int32 × SNQ) :=
  if z.1 ≤ 0 then
    some (1, z.1, z.2)
  else
    o_gd (o_in (z.1 - (1:Int32)) 300) <|
    if x2 < ((NQ_pairValue z.2) (z.1 - (1:Int32)).toNatClampNeg) then
      m_MM_sort_j71 n x1 x2 x3 z.1 z.2
    else
      o_gd (o_in (z.1 - (1:Int32)) 300) <|
      if ((NQ_pairValue z.2) (z.1 - (1:Int32)).toNatClampNeg) = x2 then
        o_gd (o_in (z.1 - (1:Int32)) 300) <|
        if ((NQ_pairKey z.2) (z.1 - (1:Int32)).toNatClampNeg) ≤ x3 then
          some (1, z.1, z.2)
        else
          m_MM_sort_j71 n x1 x2 x3 z.1 z.2
      else
        some (1, z.1, z.2)
def m_MM_sort_j109 (n : Nat) (x1 : Int32) (x2 : Int32) (x3 : Int32) (x4 : Int32) (Nq : SNQ) : Option (Nat × Int32 × SNQ) :=
  o_gd (o_in x4 300) <|
  o_gd (o_in x4 300) <|
  o_nm (x1 + (1:Int32)) fun x1_125 =>
  some (0, x1_125, (NQ_mk (upd (NQ_pairValue Nq) x4.toNatClampNeg x2) (upd (NQ_pairKey Nq) x4.toNatClampNeg x3) (NQ_pairs Nq)))
def m_MM_sort_b2 (n : Nat) (z : Int32 × SNQ) : Option (Nat × Int32 × SNQ) :=
  if (NQ_pairs z.2) ≤ z.1 then
    some (1, z.1, z.2)
  else
    o_gd (o_in z.1 300) <|
    o_nm ((NQ_pairValue z.2) z.1.toNatClampNeg) fun x2_16 =>
    o_gd (o_in z.1 300) <|
    o_nm ((NQ_pairKey z.2) z.1.toNatClampNeg) fun x3_23 =>
    o_bd (o_lp n (m_MM_sort_b27 n z.1 x2_16 x3_23) (z.1, z.2)) fun q1 =>
    m_MM_sort_j109 n z.1 x2_16 x3_23 q1.2.1 q1.2.2
def m_MM_sort_j184 (n : Nat) (x1 : Int32) (x2 : Int32) (Nq : SNQ) : Option (Nat × Int32 × Int32 × SNQ) :=
  o_gd (o_in x2 300) <|
  o_gd (o_in x1 300) <|
  o_nm (x1 + (1:Int32)) fun x1_201 =>
  o_gd (o_in x2 300) <|
  o_gd (o_in x1 300) <|
  o_nm (x2 + (1:Int32)) fun x2_211 =>
  some (0, x1_201, x2_211, (NQ_mk (upd (NQ_pairValue Nq) x1.toNatClampNeg ((NQ_pairValue Nq) x2.toNatClampNeg)) (upd (NQ_pairKey Nq) x1.toNatClampNeg ((NQ_pairKey Nq) x2.toNatClampNeg)) (NQ_pairs Nq)))
def m_MM_sort_b135 (n : Nat) (z : Int32 × Int32 × SNQ) : Option (Nat × Int32 × Int32 × SNQ) :=
  if (NQ_pairs z.2.2) ≤ z.2.1 then
    some (1, z.1, z.2.1, z.2.2)
  else
    if z.1 ≤ 0 then
      m_MM_sort_j184 n z.1 z.2.1 z.2.2
    else
      o_gd (o_in (z.1 - (1:Int32)) 300) <|
      o_gd (o_in z.2.1 300) <|
      if ((NQ_pairValue z.2.2) (z.1 - (1:Int32)).toNatClampNeg) = ((NQ_pairValue z.2.2) z.2.1.toNatClampNeg) then
        o_gd (o_in (z.1 - (1:Int32)) 300) <|
        o_gd (o_in z.2.1 300) <|
        if ((NQ_pairKey z.2.2) (z.1 - (1:Int32)).toNatClampNeg) = ((NQ_pairKey z.2.2) z.2.1.toNatClampNeg) then
          o_nm (z.2.1 + (1:Int32)) fun x2_211 =>
          some (0, z.1, x2_211, z.2.2)
        else
          m_MM_sort_j184 n z.1 z.2.1 z.2.2
      else
        m_MM_sort_j184 n z.1 z.2.1 z.2.2
def m_MM_sort (n : Nat) (Nq : SNQ) : Option (SNQ) :=
  o_bd (o_lp n (m_MM_sort_b2 n) ((1:Int32), Nq)) fun q2 =>
  o_bd (o_lp n (m_MM_sort_b135 n) ((0:Int32), (0:Int32), q2.2.2)) fun q3 =>
  some (NQ_mk (NQ_pairValue q3.2.2.2) (NQ_pairKey q3.2.2.2) q3.2.1)
def m_MM_validate_j91 (n : Nat) (x1 : Int32) (M0 : SMT) (M1 : SMT) (Ni : SNI) (Np : SNP) (No : SNO) (Nx : SNX) (Nf : SNF) (Na : SNA) (Nq : SNQ) (Nj : SNJ) (rt : Nat) : Option (Int32 × SMT × SNI × SNP × SNO × SNX × SNQ × SNJ × Nat) :=
  o_bd (m_MM_fails (NJ_over Nj) (2:Int32) Ni) fun q3 =>
  if q3.1 = 0 then
    o_bd (m_MM_sort n Nq) fun q4 =>
    o_gd (o_zb x1) <|
    some (x1, M1, q3.2, Np, No, Nx, q4, Nj, rt)
  else
    some ((0:Int32), M1, q3.2, Np, No, Nx, Nq, Nj, rt)
def m_MM_validate_j38 (n : Nat) (y1 : Int32) (M0 : SMT) (M1 : SMT) (Ni : SNI) (Np : SNP) (No : SNO) (Nx : SNX) (Nf : SNF) (Na : SNA) (Nq : SNQ) (Nj : SNJ) (rt : Nat) : Option (Int32 × SMT × SNI × SNP × SNO × SNX × SNQ × SNJ × Nat) :=
  o_bd (m_MM_fails y1 (1:Int32) Ni) fun q1 =>
  if q1.1 = 0 then
    o_bd (m_MM_judge n 104 (0:Int32) (0:Int32) M0 M1 Np No Nx Na (NQ_mk (NQ_pairValue Nq) (NQ_pairKey Nq) (0:Int32)) (NJ_mk (0:Int32) (0:Int32) (0:Int32) (0:Int32) (NJ_seen Nj)) rt) fun q2 =>
    if (NJ_over q2.2.2.2.2.2.2.1) = 0 then
      m_MM_validate_j91 n q2.1 M0 q2.2.1 q1.2 q2.2.2.1 q2.2.2.2.1 q2.2.2.2.2.1 Nf Na q2.2.2.2.2.2.1 q2.2.2.2.2.2.2.1 q2.2.2.2.2.2.2.2
    else
      m_MM_validate_j91 n q2.1 M0 q2.2.1 q1.2 q2.2.2.1 q2.2.2.2.1 q2.2.2.2.2.1 Nf Na (NQ_mk (NQ_pairValue q2.2.2.2.2.2.1) (NQ_pairKey q2.2.2.2.2.2.1) (0:Int32)) q2.2.2.2.2.2.2.1 q2.2.2.2.2.2.2.2
  else
    some ((0:Int32), M1, q1.2, Np, No, Nx, Nq, Nj, rt)
def m_MM_validate (n : Nat) (M0 : SMT) (M1 : SMT) (Ni : SNI) (Np : SNP) (No : SNO) (Nx : SNX) (Nf : SNF) (Na : SNA) (Nq : SNQ) (Nj : SNJ) (rt : Nat) : Option (Int32 × SMT × SNI × SNP × SNO × SNX × SNQ × SNJ × Nat) :=
  if (MT_values M1) = 0 then
    m_MM_validate_j38 n (1:Int32) M0 M1 (NI_mk (0:Int32) (NI_fed Ni) (NI_wrong Ni) (NI_octets Ni)) Np No Nx Nf Na Nq Nj rt
  else
    if (MT_values M0) = 0 then
      m_MM_validate_j38 n (1:Int32) M0 M1 (NI_mk (0:Int32) (NI_fed Ni) (NI_wrong Ni) (NI_octets Ni)) Np No Nx Nf Na Nq Nj rt
    else
      if (NF_checked Nf) = 0 then
        m_MM_validate_j38 n (1:Int32) M0 M1 (NI_mk (0:Int32) (NI_fed Ni) (NI_wrong Ni) (NI_octets Ni)) Np No Nx Nf Na Nq Nj rt
      else
        m_MM_validate_j38 n (0:Int32) M0 M1 (NI_mk (0:Int32) (NI_fed Ni) (NI_wrong Ni) (NI_octets Ni)) Np No Nx Nf Na Nq Nj rt
def m_MM_pairs (Ni : SNI) (Nq : SNQ) : Option (Int32 × SNI) :=
  some ((NQ_pairs Nq), (NI_mk (0:Int32) (NI_fed Ni) (NI_wrong Ni) (NI_octets Ni)))
def m_MM_pair_1_j25 (x1 : Int32) (x2 : Int32) (y1 : Int32) (Ni : SNI) (Nq : SNQ) : Option (Int32 × SNI) :=
  o_bd (m_MM_fails y1 (1:Int32) Ni) fun q2 =>
  if q2.1 = 0 then
    if x2 = 0 then
      o_gd (o_in x1 300) <|
      some (((NQ_pairValue Nq) x1.toNatClampNeg), q2.2)
    else
      o_gd (o_in x1 300) <|
      some (((NQ_pairKey Nq) x1.toNatClampNeg), q2.2)
  else
    some ((0:Int32), q2.2)
def m_MM_pair_1 (x1 : Int32) (x2 : Int32) (Ni : SNI) (Nq : SNQ) : Option (Int32 × SNI) :=
  o_bd (m_MM_in x1 (0:Int32) ((NQ_pairs Nq) - (1:Int32))) fun q1 =>
  if q1 = 0 then
    m_MM_pair_1_j25 x1 x2 (1:Int32) (NI_mk (0:Int32) (NI_fed Ni) (NI_wrong Ni) (NI_octets Ni)) Nq
  else
    m_MM_pair_1_j25 x1 x2 (0:Int32) (NI_mk (0:Int32) (NI_fed Ni) (NI_wrong Ni) (NI_octets Ni)) Nq
def m_MM_value_j65 (x2 : Int32) (x3 : Int32) (y1 : Int32) (M0 : SMT) (M1 : SMT) (Ni : SNI) : Option (Int32 × SNI) :=
  o_bd (m_MM_fails y1 (2:Int32) Ni) fun q4 =>
  if q4.1 = 0 then
    if x3 = 0 then
      o_gd (o_in x2 1000) <|
      some (((MT_kind M1) x2.toNatClampNeg), q4.2)
    else
      if x3 = (1:Int32) then
        o_gd (o_in x2 1000) <|
        some (((MT_place M1) x2.toNatClampNeg), q4.2)
      else
        if x3 = (2:Int32) then
          o_gd (o_in x2 1000) <|
          some (((MT_many M1) x2.toNatClampNeg), q4.2)
        else
          if x3 = (3:Int32) then
            o_gd (o_in x2 1000) <|
            some (((MT_parent M1) x2.toNatClampNeg), q4.2)
          else
            o_gd (o_in x2 1000) <|
            some (((MT_power M1) x2.toNatClampNeg), q4.2)
  else
    some ((0:Int32), q4.2)
def m_MM_value_j37 (x2 : Int32) (x3 : Int32) (y1 : Int32) (M0 : SMT) (M1 : SMT) (Ni : SNI) : Option (Int32 × SNI) :=
  o_bd (m_MM_fails y1 (1:Int32) Ni) fun q2 =>
  if q2.1 = 0 then
    o_bd (m_MM_in x2 (0:Int32) ((MT_values M1) - (1:Int32))) fun q3 =>
    if q3 = 0 then
      m_MM_value_j65 x2 x3 (1:Int32) M0 M1 q2.2
    else
      m_MM_value_j65 x2 x3 (0:Int32) M0 M1 q2.2
  else
    some ((0:Int32), q2.2)
def m_MM_value_j20 (x2 : Int32) (x3 : Int32) (M0 : SMT) (M1 : SMT) (Ni : SNI) : Option (Int32 × SNI) :=
  o_bd (m_MM_in x3 (0:Int32) (4:Int32)) fun q1 =>
  if q1 = 0 then
    m_MM_value_j37 x2 x3 (1:Int32) M0 M1 Ni
  else
    m_MM_value_j37 x2 x3 (0:Int32) M0 M1 Ni
def m_MM_value_j65v10 (x2 : Int32) (x3 : Int32) (y1 : Int32) (M0 : SMT) (M1 : SMT) (Ni : SNI) : Option (Int32 × SNI) :=
  o_bd (m_MM_fails y1 (2:Int32) Ni) fun q11 =>
  if q11.1 = 0 then
    if x3 = 0 then
      o_gd (o_in x2 1000) <|
      some (((MT_kind M0) x2.toNatClampNeg), q11.2)
    else
      if x3 = (1:Int32) then
        o_gd (o_in x2 1000) <|
        some (((MT_place M0) x2.toNatClampNeg), q11.2)
      else
        if x3 = (2:Int32) then
          o_gd (o_in x2 1000) <|
          some (((MT_many M0) x2.toNatClampNeg), q11.2)
        else
          if x3 = (3:Int32) then
            o_gd (o_in x2 1000) <|
            some (((MT_parent M0) x2.toNatClampNeg), q11.2)
          else
            o_gd (o_in x2 1000) <|
            some (((MT_power M0) x2.toNatClampNeg), q11.2)
  else
    some ((0:Int32), q11.2)
def m_MM_value_j37v7 (x2 : Int32) (x3 : Int32) (y1 : Int32) (M0 : SMT) (M1 : SMT) (Ni : SNI) : Option (Int32 × SNI) :=
  o_bd (m_MM_fails y1 (1:Int32) Ni) fun q8 =>
  if q8.1 = 0 then
    o_bd (m_MM_in x2 (0:Int32) ((MT_values M0) - (1:Int32))) fun q9 =>
    if q9 = 0 then
      m_MM_value_j65v10 x2 x3 (1:Int32) M0 M1 q8.2
    else
      m_MM_value_j65v10 x2 x3 (0:Int32) M0 M1 q8.2
  else
    some ((0:Int32), q8.2)
def m_MM_value_j20v5 (x2 : Int32) (x3 : Int32) (M0 : SMT) (M1 : SMT) (Ni : SNI) : Option (Int32 × SNI) :=
  o_bd (m_MM_in x3 (0:Int32) (4:Int32)) fun q6 =>
  if q6 = 0 then
    m_MM_value_j37v7 x2 x3 (1:Int32) M0 M1 Ni
  else
    m_MM_value_j37v7 x2 x3 (0:Int32) M0 M1 Ni
def m_MM_value (x1 : Int32) (x2 : Int32) (x3 : Int32) (M0 : SMT) (M1 : SMT) (Ni : SNI) : Option (Int32 × SNI) :=
  if x1 = 0 then
    m_MM_value_j20 x2 x3 M0 M1 (NI_mk (0:Int32) (NI_fed Ni) (NI_wrong Ni) (NI_octets Ni))
  else
    m_MM_value_j20v5 x2 x3 M0 M1 (NI_mk (0:Int32) (NI_fed Ni) (NI_wrong Ni) (NI_octets Ni))
def m_MM_alike_j45 (n : Nat) (x1 : Int32) (x2 : Int32) (y1 : Int32) (M1 : SMT) (Ni : SNI) : Option (Int32 × SNI) :=
  o_bd (m_MM_fails y1 (1:Int32) Ni) fun q2 =>
  if q2.1 = 0 then
    o_bd (m_MT_alike n 1003 x1 x2 M1 M1) fun q3 =>
    o_gd (o_zb q3) <|
    some (q3, q2.2)
  else
    some ((0:Int32), q2.2)
def m_MM_alike (n : Nat) (x1 : Int32) (x2 : Int32) (M1 : SMT) (Ni : SNI) : Option (Int32 × SNI) :=
  o_bd (m_MM_in x1 (0:Int32) ((MT_values M1) - (1:Int32))) fun q1 =>
  if q1 = 0 then
    m_MM_alike_j45 n x1 x2 (1:Int32) M1 (NI_mk (0:Int32) (NI_fed Ni) (NI_wrong Ni) (NI_octets Ni))
  else
    o_bd (m_MM_in x2 (0:Int32) ((MT_values M1) - (1:Int32))) fun q4 =>
    if q4 = 0 then
      m_MM_alike_j45 n x1 x2 (1:Int32) M1 (NI_mk (0:Int32) (NI_fed Ni) (NI_wrong Ni) (NI_octets Ni))
    else
      m_MM_alike_j45 n x1 x2 (0:Int32) M1 (NI_mk (0:Int32) (NI_fed Ni) (NI_wrong Ni) (NI_octets Ni))
def m_MM_matches_1_j96 (n : Nat) (x1 : Int32) (y1 : Int32) (M1 : SMT) (Ni : SNI) (Np : SNP) (No : SNO) (Nx : SNX) (rt : Nat) : Option (Int32 × SNI × SNP × SNO × SNX × Nat) :=
  o_bd (m_MM_fails y1 (2:Int32) Ni) fun q3 =>
  if q3.1 = 0 then
    o_bd (m_MM_matches n x1 M1 Np No Nx) fun q4 =>
    o_gd (o_zb q4.1) <|
    some (q4.1, q3.2, Np, No, q4.2, rt)
  else
    some ((0:Int32), q3.2, Np, No, Nx, rt)
def m_MM_matches_1_j45 (n : Nat) (x1 : Int32) (x2 : Int32) (y1 : Int32) (M1 : SMT) (Ni : SNI) (Np : SNP) (No : SNO) (Nx : SNX) (rt : Nat) : Option (Int32 × SNI × SNP × SNO × SNX × Nat) :=
  o_bd (m_MM_fails y1 (1:Int32) Ni) fun q2 =>
  if q2.1 = 0 then
    o_gd (o_in x1 1000) <|
    if ((MT_kind M1) x1.toNatClampNeg) = (4:Int32) then
      o_gd (o_in x2 1000) <|
      if ((MT_kind M1) x2.toNatClampNeg) = (4:Int32) then
        o_bd (m_MM_isPattern n x2 M1 Np No) fun q5 =>
        if q5.1 = 0 then
          m_MM_matches_1_j96 n x1 (1:Int32) M1 q2.2 q5.2.1 q5.2.2 Nx (48)
        else
          m_MM_matches_1_j96 n x1 (0:Int32) M1 q2.2 q5.2.1 q5.2.2 Nx (48)
      else
        m_MM_matches_1_j96 n x1 (1:Int32) M1 q2.2 Np No Nx rt
    else
      m_MM_matches_1_j96 n x1 (1:Int32) M1 q2.2 Np No Nx rt
  else
    some ((0:Int32), q2.2, Np, No, Nx, rt)
def m_MM_matches_1 (n : Nat) (x1 : Int32) (x2 : Int32) (M1 : SMT) (Ni : SNI) (Np : SNP) (No : SNO) (Nx : SNX) (rt : Nat) : Option (Int32 × SNI × SNP × SNO × SNX × Nat) :=
  o_bd (m_MM_in x1 (0:Int32) ((MT_values M1) - (1:Int32))) fun q1 =>
  if q1 = 0 then
    m_MM_matches_1_j45 n x1 x2 (1:Int32) M1 (NI_mk (0:Int32) (NI_fed Ni) (NI_wrong Ni) (NI_octets Ni)) Np No Nx rt
  else
    o_bd (m_MM_in x2 (0:Int32) ((MT_values M1) - (1:Int32))) fun q6 =>
    if q6 = 0 then
      m_MM_matches_1_j45 n x1 x2 (1:Int32) M1 (NI_mk (0:Int32) (NI_fed Ni) (NI_wrong Ni) (NI_octets Ni)) Np No Nx rt
    else
      m_MM_matches_1_j45 n x1 x2 (0:Int32) M1 (NI_mk (0:Int32) (NI_fed Ni) (NI_wrong Ni) (NI_octets Ni)) Np No Nx rt
def m_MM_count_j20 (x1 : Int32) (y1 : Int32) (M0 : SMT) (M1 : SMT) (Ni : SNI) (Nj : SNJ) : Option (Int32 × SNI) :=
  o_bd (m_MM_fails y1 (1:Int32) Ni) fun q2 =>
  if q2.1 = 0 then
    if x1 = 0 then
      some ((MT_values M0), q2.2)
    else
      if x1 = (1:Int32) then
        some ((MT_values M1), q2.2)
      else
        if x1 = (2:Int32) then
          some ((NJ_judged Nj), q2.2)
        else
          some ((NJ_deepest Nj), q2.2)
  else
    some ((0:Int32), q2.2)
def m_MM_count (x1 : Int32) (M0 : SMT) (M1 : SMT) (Ni : SNI) (Nj : SNJ) : Option (Int32 × SNI) :=
  o_bd (m_MM_in x1 (0:Int32) (3:Int32)) fun q1 =>
  if q1 = 0 then
    m_MM_count_j20 x1 (1:Int32) M0 M1 (NI_mk (0:Int32) (NI_fed Ni) (NI_wrong Ni) (NI_octets Ni)) Nj
  else
    m_MM_count_j20 x1 (0:Int32) M0 M1 (NI_mk (0:Int32) (NI_fed Ni) (NI_wrong Ni) (NI_octets Ni)) Nj
