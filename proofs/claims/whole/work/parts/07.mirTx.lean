def m_Tx_clear (a0 : STx) : Option (STx) :=
  some (Tx_mk (Tx_kinds a0) (Tx_places a0) (Tx_sizes a0) (Tx_parents a0) (Tx_exponents a0) (Tx_starts a0) (Tx_afters a0) (Tx_slots a0) (Tx_negatives a0) (Tx_cells a0) (0:Int32) (0:Int32) (0:Int32))
def m_Tx_begin (x1 : Int32) (x2 : Int32) (x3 : Int32) (x4 : Int32) (a0 : STx) : Option (Int32 × STx) :=
  if (Tx_total a0) < (1000:Int32) then
    o_nm (Tx_total a0) fun x5_16 =>
    o_gd (o_in x5_16 1000) <|
    o_gd (o_in x5_16 1000) <|
    o_gd (o_in x5_16 1000) <|
    o_gd (o_in x5_16 1000) <|
    o_gd (o_in x5_16 1000) <|
    o_gd (o_in x5_16 1000) <|
    o_gd (o_in x5_16 1000) <|
    o_gd (o_in x5_16 1000) <|
    o_gd (o_in x5_16 1000) <|
    some (x5_16, (Tx_mk (upd (Tx_kinds a0) x5_16.toNatClampNeg x1) (upd (Tx_places a0) x5_16.toNatClampNeg x2) (upd (Tx_sizes a0) x5_16.toNatClampNeg (0:Int32)) (upd (Tx_parents a0) x5_16.toNatClampNeg x3) (upd (Tx_exponents a0) x5_16.toNatClampNeg (0:Int32)) (upd (Tx_starts a0) x5_16.toNatClampNeg (Tx_used a0)) (upd (Tx_afters a0) x5_16.toNatClampNeg ((Tx_total a0) + (1:Int32))) (upd (Tx_slots a0) x5_16.toNatClampNeg x4) (upd (Tx_negatives a0) x5_16.toNatClampNeg (vp_nar .boolean (0:Int32))) (Tx_cells a0) ((Tx_total a0) + (1:Int32)) (Tx_used a0) (Tx_characters a0)))
  else
    some ((-1:Int32), a0)
def m_Tx_addDigit (x1 : Int32) (a0 : STx) : Option (STx) :=
  if (8192:Int32) ≤ (Tx_used a0) then
    some a0
  else
    o_gd (o_in (Tx_used a0) 8192) <|
    some (Tx_mk (Tx_kinds a0) (Tx_places a0) (Tx_sizes a0) (Tx_parents a0) (Tx_exponents a0) (Tx_starts a0) (Tx_afters a0) (Tx_slots a0) (Tx_negatives a0) (upd (Tx_cells a0) (Tx_used a0).toNatClampNeg x1) (Tx_total a0) ((Tx_used a0) + (1:Int32)) (Tx_characters a0))
def m_Tx_endNumber_b27 (n : Nat) (x1 : Int32) (x2 : Int32) (x3 : Int32) (x4 : Int32) (a0 : STx) (z : Int32) : Option (Nat × Int32) :=
  if z ≤ x4 then
    some (1, z)
  else
    o_gd (o_in (z - (1:Int32)) 8192) <|
    if ((Tx_cells a0) (z - (1:Int32)).toNatClampNeg) = 0 then
      o_nm (z + (-1:Int32)) fun x5_46 =>
      some (0, x5_46)
    else
      some (1, z)
def m_Tx_endNumber_b52 (n : Nat) (x1 : Int32) (x2 : Int32) (x3 : Int32) (x5 : Int32) (a0 : STx) (z : Int32) : Option (Nat × Int32) :=
  if x5 ≤ z then
    some (1, z)
  else
    o_gd (o_in z 8192) <|
    if ((Tx_cells a0) z.toNatClampNeg) = 0 then
      o_nm (z + (1:Int32)) fun x4_69 =>
      some (0, x4_69)
    else
      some (1, z)
def m_Tx_endNumber_j119 (n : Nat) (x1 : Int32) (x2 : Int32) (x4 : Int32) (x5 : Int32) (y1 : Int32) (y2 : Int32) (a0 : STx) : Option (STx) :=
  o_gd (o_in y1 1000) <|
  if x2 = 0 then
    o_gd (o_in x1 1000) <|
    some (Tx_mk (Tx_kinds a0) (Tx_places a0) (Tx_sizes a0) (Tx_parents a0) (upd (Tx_exponents a0) y1.toNatClampNeg y2) (Tx_starts a0) (Tx_afters a0) (Tx_slots a0) (upd (Tx_negatives a0) x1.toNatClampNeg (vp_nar .boolean (0:Int32))) (Tx_cells a0) (Tx_total a0) (Tx_used a0) (Tx_characters a0))
  else
    if x5 ≤ x4 then
      o_gd (o_in x1 1000) <|
      some (Tx_mk (Tx_kinds a0) (Tx_places a0) (Tx_sizes a0) (Tx_parents a0) (upd (Tx_exponents a0) y1.toNatClampNeg y2) (Tx_starts a0) (Tx_afters a0) (Tx_slots a0) (upd (Tx_negatives a0) x1.toNatClampNeg (vp_nar .boolean (0:Int32))) (Tx_cells a0) (Tx_total a0) (Tx_used a0) (Tx_characters a0))
    else
      o_gd (o_in x1 1000) <|
      some (Tx_mk (Tx_kinds a0) (Tx_places a0) (Tx_sizes a0) (Tx_parents a0) (upd (Tx_exponents a0) y1.toNatClampNeg y2) (Tx_starts a0) (Tx_afters a0) (Tx_slots a0) (upd (Tx_negatives a0) x1.toNatClampNeg (vp_nar .boolean (1:Int32))) (Tx_cells a0) (Tx_total a0) (Tx_used a0) (Tx_characters a0))
def m_Tx_endNumber_j75 (n : Nat) (x1 : Int32) (x2 : Int32) (x3 : Int32) (x4 : Int32) (x5 : Int32) (a0 : STx) : Option (STx) :=
  o_gd (o_in x1 1000) <|
  o_gd (o_in x1 1000) <|
  if x5 = x4 then
    m_Tx_endNumber_j119 n x1 x2 x4 x5 x1 (0:Int32) (Tx_mk (Tx_kinds a0) (Tx_places a0) (upd (Tx_sizes a0) x1.toNatClampNeg (x5 - x4)) (Tx_parents a0) (Tx_exponents a0) (upd (Tx_starts a0) x1.toNatClampNeg x4) (Tx_afters a0) (Tx_slots a0) (Tx_negatives a0) (Tx_cells a0) (Tx_total a0) (Tx_used a0) (Tx_characters a0))
  else
    m_Tx_endNumber_j119 n x1 x2 x4 x5 x1 ((x3 + (Tx_used a0)) - x5) (Tx_mk (Tx_kinds a0) (Tx_places a0) (upd (Tx_sizes a0) x1.toNatClampNeg (x5 - x4)) (Tx_parents a0) (Tx_exponents a0) (upd (Tx_starts a0) x1.toNatClampNeg x4) (Tx_afters a0) (Tx_slots a0) (Tx_negatives a0) (Tx_cells a0) (Tx_total a0) (Tx_used a0) (Tx_characters a0))
def m_Tx_endNumber (n : Nat) (x1 : Int32) (x2 : Int32) (x3 : Int32) (a0 : STx) : Option (STx) :=
  if x1 < 0 then
    some a0
  else
    if x1 < (Tx_total a0) then
      o_gd (o_in x1 1000) <|
      o_nm ((Tx_starts a0) x1.toNatClampNeg) fun x4_19 =>
      o_nm (Tx_used a0) fun x5_25 =>
      o_bd (o_lp n (m_Tx_endNumber_b27 n x1 x2 x3 x4_19 a0) (x5_25)) fun q1 =>
      o_bd (o_lp n (m_Tx_endNumber_b52 n x1 x2 x3 q1.2 a0) (x4_19)) fun q2 =>
      m_Tx_endNumber_j75 n x1 x2 x3 q2.2 q1.2 a0
    else
      some a0
def m_Tx_endString (x1 : Int32) (a0 : STx) : Option (STx) :=
  if x1 < 0 then
    some a0
  else
    if (Tx_total a0) ≤ x1 then
      some a0
    else
      o_gd (o_in x1 1000) <|
      o_gd (o_in x1 1000) <|
      some (Tx_mk (Tx_kinds a0) (Tx_places a0) (upd (Tx_sizes a0) x1.toNatClampNeg ((Tx_used a0) - ((Tx_starts a0) x1.toNatClampNeg))) (Tx_parents a0) (Tx_exponents a0) (Tx_starts a0) (Tx_afters a0) (Tx_slots a0) (Tx_negatives a0) (Tx_cells a0) (Tx_total a0) (Tx_used a0) (Tx_characters a0))
def m_Tx_addCharacter (x1 : Int32) (a0 : STx) : Option (Int32 × STx) :=
  if (4000:Int32) ≤ (Tx_characters a0) then
    some ((0:Int32), a0)
  else
    if (Tx_used a0) < (8192:Int32) then
      o_gd (o_in (Tx_used a0) 8192) <|
      some ((1:Int32), (Tx_mk (Tx_kinds a0) (Tx_places a0) (Tx_sizes a0) (Tx_parents a0) (Tx_exponents a0) (Tx_starts a0) (Tx_afters a0) (Tx_slots a0) (Tx_negatives a0) (upd (Tx_cells a0) (Tx_used a0).toNatClampNeg x1) (Tx_total a0) ((Tx_used a0) + (1:Int32)) ((Tx_characters a0) + (1:Int32))))
    else
      some ((0:Int32), a0)
def m_Tx_endParent (x1 : Int32) (x2 : Int32) (a0 : STx) : Option (STx) :=
  if x1 < 0 then
    some a0
  else
    if (Tx_total a0) ≤ x1 then
      some a0
    else
      o_gd (o_in x1 1000) <|
      o_gd (o_in x1 1000) <|
      some (Tx_mk (Tx_kinds a0) (Tx_places a0) (upd (Tx_sizes a0) x1.toNatClampNeg x2) (Tx_parents a0) (Tx_exponents a0) (Tx_starts a0) (upd (Tx_afters a0) x1.toNatClampNeg (Tx_total a0)) (Tx_slots a0) (Tx_negatives a0) (Tx_cells a0) (Tx_total a0) (Tx_used a0) (Tx_characters a0))
def m_Tx_firstChild (x1 : Int32) (a0 : STx) : Option (Int32) :=
  if x1 < 0 then
    some (-1:Int32)
  else
    if (Tx_total a0) ≤ x1 then
      some (-1:Int32)
    else
      o_gd (o_in x1 1000) <|
      if ((Tx_sizes a0) x1.toNatClampNeg) = 0 then
        some (-1:Int32)
      else
        o_gd (o_in x1 1000) <|
        if (5:Int32) ≤ ((Tx_kinds a0) x1.toNatClampNeg) then
          o_gd (o_in x1 1000) <|
          if ((Tx_kinds a0) x1.toNatClampNeg) = (5:Int32) then
            some (x1 + (1:Int32))
          else
            some (x1 + (2:Int32))
        else
          some (-1:Int32)
def m_Tx_size (x1 : Int32) (a0 : STx) : Option (Int32) :=
  if x1 < 0 then
    some (0:Int32)
  else
    if (Tx_total a0) ≤ x1 then
      some (0:Int32)
    else
      o_gd (o_in x1 1000) <|
      some ((Tx_sizes a0) x1.toNatClampNeg)
def m_Tx_sameString_b102 (n : Nat) (x4 : Int32) (x5 : Int32) (x6 : Int32) (a0 : STx) (a2 : STx) (z : Int32) : Option (Nat × Int32) :=
  if x6 ≤ z then
    some (2, z)
  else
    o_gd (o_in (x4 + z) 8192) <|
    o_gd (o_in (x5 + z) 8192) <|
    if ((Tx_cells a0) (x4 + z).toNatClampNeg) = ((Tx_cells a2) (x5 + z).toNatClampNeg) then
      o_nm (z + (1:Int32)) fun x7_134 =>
      some (0, x7_134)
    else
      some (1, z)
def m_Tx_sameString (n : Nat) (x1 : Int32) (x3 : Int32) (a0 : STx) (a2 : STx) : Option (Int32) :=
  if x1 < 0 then
    some (0:Int32)
  else
    if (Tx_total a0) ≤ x1 then
      some (0:Int32)
    else
      if x3 < 0 then
        some (0:Int32)
      else
        if (Tx_total a2) ≤ x3 then
          some (0:Int32)
        else
          o_gd (o_in x1 1000) <|
          o_gd (o_in x3 1000) <|
          if ((Tx_sizes a0) x1.toNatClampNeg) = ((Tx_sizes a2) x3.toNatClampNeg) then
            o_gd (o_in x1 1000) <|
            o_nm ((Tx_starts a0) x1.toNatClampNeg) fun x4_47 =>
            o_gd (o_in x3 1000) <|
            o_nm ((Tx_starts a2) x3.toNatClampNeg) fun x5_55 =>
            o_gd (o_in x1 1000) <|
            o_nm ((Tx_sizes a0) x1.toNatClampNeg) fun x6_63 =>
            if x4_47 < 0 then
              some (0:Int32)
            else
              if (8192:Int32) < (x4_47 + x6_63) then
                some (0:Int32)
              else
                if x5_55 < 0 then
                  some (0:Int32)
                else
                  if (x5_55 + x6_63) ≤ (8192:Int32) then
                    o_bd (o_lp n (m_Tx_sameString_b102 n x4_47 x5_55 x6_63 a0 a2) ((0:Int32))) fun q1 =>
                    if q1.1 = 1 then
                      some (0:Int32)
                    else
                    some (1:Int32)
                  else
                    some (0:Int32)
          else
            some (0:Int32)
def m_Tx_nextChild_j22 (x1 : Int32) (y0 : Int32) (a0 : STx) : Option (Int32) :=
  if y0 < 0 then
    some (-1:Int32)
  else
    if (Tx_total a0) ≤ y0 then
      some (-1:Int32)
    else
      o_gd (o_in x1 1000) <|
      o_gd (o_in y0 1000) <|
      if (((Tx_slots a0) x1.toNatClampNeg) + (1:Int32)) < ((Tx_sizes a0) y0.toNatClampNeg) then
        o_gd (o_in y0 1000) <|
        if ((Tx_kinds a0) y0.toNatClampNeg) = (5:Int32) then
          o_gd (o_in x1 1000) <|
          some ((Tx_afters a0) x1.toNatClampNeg)
        else
          o_gd (o_in x1 1000) <|
          some (((Tx_afters a0) x1.toNatClampNeg) + (1:Int32))
      else
        some (-1:Int32)
def m_Tx_nextChild (x1 : Int32) (a0 : STx) : Option (Int32) :=
  if x1 < 0 then
    m_Tx_nextChild_j22 x1 (-1:Int32) a0
  else
    if (Tx_total a0) ≤ x1 then
      m_Tx_nextChild_j22 x1 (-1:Int32) a0
    else
      o_gd (o_in x1 1000) <|
      m_Tx_nextChild_j22 x1 ((Tx_parents a0) x1.toNatClampNeg) a0
def m_Tx_member_b10 (n : Nat) (x1 : Int32) (x3 : Int32) (a0 : STx) (a2 : STx) (z : Int32 × Int32) : Option (Nat × Int32 × Int32) :=
  o_bd (m_Tx_size x1 a0) fun q2 =>
  if q2 ≤ z.2 then
    some (2, z.1, z.2)
  else
    o_bd (m_Tx_sameString n (z.1 - (1:Int32)) x3 a0 a2) fun q3 =>
    if q3 = 0 then
      o_bd (m_Tx_nextChild z.1 a0) fun q4 =>
      o_nm (z.2 + (1:Int32)) fun x5_44 =>
      some (0, q4, x5_44)
    else
      some (1, z.1, z.2)
def m_Tx_member (n : Nat) (x1 : Int32) (x3 : Int32) (a0 : STx) (a2 : STx) : Option (Int32) :=
  o_bd (m_Tx_firstChild x1 a0) fun q1 =>
  o_bd (o_lp n (m_Tx_member_b10 n x1 x3 a0 a2) (q1, (0:Int32))) fun q5 =>
  if q5.1 = 1 then
    some q5.2.1
  else
  some (-1:Int32)
def m_Tx_place (x1 : Int32) (a0 : STx) : Option (Int32) :=
  if x1 < 0 then
    some (-1:Int32)
  else
    if (Tx_total a0) ≤ x1 then
      some (-1:Int32)
    else
      o_gd (o_in x1 1000) <|
      some ((Tx_places a0) x1.toNatClampNeg)
def m_Tx_total (a0 : STx) : Option (Int32) :=
  some (Tx_total a0)
def m_Tx_kind (x1 : Int32) (a0 : STx) : Option (Int32) :=
  if x1 < 0 then
    some (-1:Int32)
  else
    if (Tx_total a0) ≤ x1 then
      some (-1:Int32)
    else
      o_gd (o_in x1 1000) <|
      some ((Tx_kinds a0) x1.toNatClampNeg)
def m_Tx_spells_b50 (n : Nat) (x1 : Int32) (x2 : List Int32) (a0 : STx) (z : Int32) : Option (Nat × Int32) :=
  if (o_sl x2) ≤ z then
    some (2, z)
  else
    o_gd (o_in x1 1000) <|
    o_gd (o_in (((Tx_starts a0) x1.toNatClampNeg) + z) 8192) <|
    o_gd (o_in z x2.length) <|
    if ((Tx_cells a0) (((Tx_starts a0) x1.toNatClampNeg) + z).toNatClampNeg) = (o_sa x2 z.toNatClampNeg) then
      o_nm (z + (1:Int32)) fun x3_81 =>
      some (0, x3_81)
    else
      some (1, z)
def m_Tx_spells (n : Nat) (x1 : Int32) (x2 : List Int32) (a0 : STx) : Option (Int32) :=
  if x1 < 0 then
    some (0:Int32)
  else
    if (Tx_total a0) ≤ x1 then
      some (0:Int32)
    else
      o_gd (o_in x1 1000) <|
      if ((Tx_sizes a0) x1.toNatClampNeg) = (o_sl x2) then
        o_gd (o_in x1 1000) <|
        o_gd (o_in x1 1000) <|
        if (((Tx_starts a0) x1.toNatClampNeg) + ((Tx_sizes a0) x1.toNatClampNeg)) ≤ (8192:Int32) then
          o_bd (o_lp n (m_Tx_spells_b50 n x1 x2 a0) ((0:Int32))) fun q1 =>
          if q1.1 = 1 then
            some (0:Int32)
          else
          some (1:Int32)
        else
          some (0:Int32)
      else
        some (0:Int32)
def m_Tx_cell (x1 : Int32) (x2 : Int32) (a0 : STx) : Option (Int32) :=
  if x1 < 0 then
    some (0:Int32)
  else
    if (Tx_total a0) ≤ x1 then
      some (0:Int32)
    else
      if x2 < 0 then
        some (0:Int32)
      else
        o_gd (o_in x1 1000) <|
        if x2 < ((Tx_sizes a0) x1.toNatClampNeg) then
          o_gd (o_in x1 1000) <|
          o_nm (((Tx_starts a0) x1.toNatClampNeg) + x2) fun x3_36 =>
          if x3_36 < 0 then
            some (0:Int32)
          else
            if (8192:Int32) ≤ x3_36 then
              some (0:Int32)
            else
              o_gd (o_in x3_36 8192) <|
              some ((Tx_cells a0) x3_36.toNatClampNeg)
        else
          some (0:Int32)
def m_Tx_sign (x1 : Int32) (a0 : STx) : Option (Int32) :=
  if x1 < 0 then
    some (0:Int32)
  else
    if (Tx_total a0) ≤ x1 then
      some (0:Int32)
    else
      o_gd (o_in x1 1000) <|
      if ((Tx_sizes a0) x1.toNatClampNeg) = 0 then
        some (0:Int32)
      else
        o_gd (o_in x1 1000) <|
        if ((Tx_negatives a0) x1.toNatClampNeg) = 0 then
          some (1:Int32)
        else
          some (-1:Int32)
def m_Tx_exponent (x1 : Int32) (a0 : STx) : Option (Int32) :=
  if x1 < 0 then
    some (0:Int32)
  else
    if (Tx_total a0) ≤ x1 then
      some (0:Int32)
    else
      o_gd (o_in x1 1000) <|
      some ((Tx_exponents a0) x1.toNatClampNeg)
def m_Tx_wholeNumber_b47 (n : Nat) (x1 : Int32) (a0 : STx) (z : Int32 × Int32) : Option (Nat × Int32 × Int32) :=
  o_bd (m_Tx_size x1 a0) fun q6 =>
  o_bd (m_Tx_exponent x1 a0) fun q7 =>
  if (q6 + q7) ≤ z.2 then
    some (1, z.1, z.2)
  else
    o_bd (m_Tx_cell x1 z.2 a0) fun q8 =>
    o_nm ((z.1 * (10:Int32)) + q8) fun x2_73 =>
    o_nm (z.2 + (1:Int32)) fun x3_74 =>
    some (0, x2_73, x3_74)
def m_Tx_wholeNumber (n : Nat) (x1 : Int32) (a0 : STx) : Option (Int32) :=
  o_bd (m_Tx_kind x1 a0) fun q1 =>
  if q1 = (3:Int32) then
    o_bd (m_Tx_sign x1 a0) fun q2 =>
    if q2 < 0 then
      some (-1:Int32)
    else
      o_bd (m_Tx_exponent x1 a0) fun q3 =>
      if q3 < 0 then
        some (-1:Int32)
      else
        o_bd (m_Tx_size x1 a0) fun q4 =>
        o_bd (m_Tx_exponent x1 a0) fun q5 =>
        if (q4 + q5) ≤ (7:Int32) then
          o_bd (o_lp n (m_Tx_wholeNumber_b47 n x1 a0) ((0:Int32), (0:Int32))) fun q9 =>
          if q9.2.1 ≤ (1000000:Int32) then
            some q9.2.1
          else
            some (-1:Int32)
        else
          some (-1:Int32)
  else
    some (-1:Int32)
def m_Tx_slot (x1 : Int32) (a0 : STx) : Option (Int32) :=
  if x1 < 0 then
    some (0:Int32)
  else
    if (Tx_total a0) ≤ x1 then
      some (0:Int32)
    else
      o_gd (o_in x1 1000) <|
      some ((Tx_slots a0) x1.toNatClampNeg)
def m_Tx_element_b9 (n : Nat) (x2 : Int32) (a0 : STx) (z : Int32 × Int32) : Option (Nat × Int32 × Int32) :=
  if x2 ≤ z.2 then
    some (1, z.1, z.2)
  else
    if z.1 = (-1:Int32) then
      some (1, z.1, z.2)
    else
      o_bd (m_Tx_nextChild z.1 a0) fun q2 =>
      o_nm (z.2 + (1:Int32)) fun x4_26 =>
      some (0, q2, x4_26)
def m_Tx_element (n : Nat) (x1 : Int32) (x2 : Int32) (a0 : STx) : Option (Int32) :=
  o_bd (m_Tx_firstChild x1 a0) fun q1 =>
  o_bd (o_lp n (m_Tx_element_b9 n x2 a0) (q1, (0:Int32))) fun q3 =>
  some q3.2.1
def m_Tx_parent (x1 : Int32) (a0 : STx) : Option (Int32) :=
  if x1 < 0 then
    some (-1:Int32)
  else
    if (Tx_total a0) ≤ x1 then
      some (-1:Int32)
    else
      o_gd (o_in x1 1000) <|
      some ((Tx_parents a0) x1.toNatClampNeg)
def m_Tx_compare_j22 (n : Nat) (x3 : Int32) (x4 : Int32) (a0 : STx) (a2 : STx) : Option (Int32) :=
  o_bd (m_Tx_sign x3 a2) fun q3 =>
  some (x4 - q3)
def m_Tx_compare_b83 (n : Nat) (x1 : Int32) (x3 : Int32) (x4 : Int32) (a0 : STx) (a2 : STx) (z : Int32 × Int32 × Int32) : Option (Nat × Int32 × Int32 × Int32) :=
  if (60:Int32) ≤ z.1 then
    some (2, z.1, (0:Int32), (0:Int32))
  else
    o_bd (m_Tx_cell x1 z.1 a0) fun q8 =>
    o_bd (m_Tx_cell x3 z.1 a2) fun q9 =>
    if q8 = q9 then
      o_nm (z.1 + (1:Int32)) fun x7_131 =>
      some (0, x7_131, q8, q9)
    else
      some (1, z.1, q8, q9)
def m_Tx_compare (n : Nat) (x1 : Int32) (x3 : Int32) (a0 : STx) (a2 : STx) : Option (Int32) :=
  o_bd (m_Tx_sign x1 a0) fun q1 =>
  o_bd (m_Tx_sign x3 a2) fun q2 =>
  if q1 = q2 then
    if q1 = 0 then
      m_Tx_compare_j22 n x3 q1 a0 a2
    else
      o_bd (m_Tx_size x1 a0) fun q4 =>
      o_bd (m_Tx_exponent x1 a0) fun q5 =>
      o_nm (q4 + q5) fun x5_42 =>
      o_bd (m_Tx_size x3 a2) fun q6 =>
      o_bd (m_Tx_exponent x3 a2) fun q7 =>
      o_nm (q6 + q7) fun x6_55 =>
      if x5_42 = x6_55 then
        o_bd (o_lp n (m_Tx_compare_b83 n x1 x3 q1 a0 a2) ((0:Int32), (0:Int32), (0:Int32))) fun q10 =>
        if q10.1 = 1 then
          if q10.2.2.2 ≤ q10.2.2.1 then
            some q1
          else
            some (-q1)
        else
        some (0:Int32)
      else
        if x6_55 ≤ x5_42 then
          some q1
        else
          some (-q1)
  else
    m_Tx_compare_j22 n x3 q1 a0 a2
def m_Tx_same_j125 (n : Nat) (rec : Int32 → Int32 → Int32 → STx → STx → Option (Int32)) (x1 : Int32) (x3 : Int32) (x4 : Int32) (x5 : Int32) (x6 : Int32) (x7 : Int32) (x8 : Int32) (y0 : Int32) (a0 : STx) (a2 : STx) : Option (Nat × Int32 × Int32 × Int32) :=
  if y0 = (-1:Int32) then
    some (1, x6, x7, x8)
  else
    o_bd (rec x6 y0 (x4 + (1:Int32)) a0 a2) fun q9 =>
    if q9 = 0 then
      some (1, x6, x7, x8)
    else
      o_bd (m_Tx_nextChild x6 a0) fun q10 =>
      o_bd (m_Tx_nextChild x7 a2) fun q11 =>
      o_nm (x8 + (1:Int32)) fun x8_167 =>
      some (0, q10, q11, x8_167)
def m_Tx_same_b94 (n : Nat) (rec : Int32 → Int32 → Int32 → STx → STx → Option (Int32)) (x1 : Int32) (x3 : Int32) (x4 : Int32) (x5 : Int32) (a0 : STx) (a2 : STx) (z : Int32 × Int32 × Int32) : Option (Nat × Int32 × Int32 × Int32) :=
  o_bd (m_Tx_size x1 a0) fun q7 =>
  if q7 ≤ z.2.2 then
    some (2, z.1, z.2.1, z.2.2)
  else
    if x5 = (5:Int32) then
      m_Tx_same_j125 n rec x1 x3 x4 x5 z.1 z.2.1 z.2.2 z.2.1 a0 a2
    else
      o_bd (m_Tx_member n x3 (z.1 - (1:Int32)) a2 a0) fun q8 =>
      m_Tx_same_j125 n rec x1 x3 x4 x5 z.1 z.2.1 z.2.2 q8 a0 a2
def m_Tx_same_F (n : Nat) (rec : Int32 → Int32 → Int32 → STx → STx → Option (Int32)) (x1 : Int32) (x3 : Int32) (x4 : Int32) (a0 : STx) (a2 : STx) : Option (Int32) :=
  o_bd (m_Tx_kind x1 a0) fun q1 =>
  o_bd (m_Tx_kind x3 a2) fun q2 =>
  if q1 = q2 then
    if x4 ≤ (40:Int32) then
      if q1 = (3:Int32) then
        o_bd (m_Tx_compare n x1 x3 a0 a2) fun q14 =>
        if q14 = 0 then
          some (1:Int32)
        else
          some (0:Int32)
      else
        if q1 = (4:Int32) then
          o_bd (m_Tx_sameString n x1 x3 a0 a2) fun q13 =>
          o_gd (o_zb q13) <|
          some q13
        else
          o_bd (m_Tx_size x1 a0) fun q3 =>
          o_bd (m_Tx_size x3 a2) fun q4 =>
          if q3 = q4 then
            o_bd (m_Tx_firstChild x1 a0) fun q5 =>
            o_bd (m_Tx_firstChild x3 a2) fun q6 =>
            o_bd (o_lp n (m_Tx_same_b94 n rec x1 x3 x4 q1 a0 a2) (q5, q6, (0:Int32))) fun q12 =>
            if q12.1 = 1 then
              some (0:Int32)
            else
            some (1:Int32)
          else
            some (0:Int32)
    else
      some (0:Int32)
  else
    some (0:Int32)
def m_Tx_same (n : Nat) : Nat → Int32 → Int32 → Int32 → STx → STx → Option (Int32)
  | 0, _, _, _, _, _ => none
  | d + 1, v0, v1, v2, v3, v4 => m_Tx_same_F n (m_Tx_same n d) v0 v1 v2 v3 v4
def m_Tx_has (x1 : Int32) (a0 : STx) : Option (Int32) :=
  if x1 < 0 then
    some (0:Int32)
  else
    if (Tx_total a0) ≤ x1 then
      some (0:Int32)
    else
      some (1:Int32)
