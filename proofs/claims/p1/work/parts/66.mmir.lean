def m_MM_thrown (Mm : SMM) : Option (Int32) :=
  some (MM_err Mm)
def m_MM_fails_j16 (Mm : SMM) : Option (Int32 × SMM) :=
  if (MM_err Mm) = 0 then
    some ((0:Int32), Mm)
  else
    some ((1:Int32), Mm)
def m_MM_fails (x1 : Int32) (x2 : Int32) (Mm : SMM) : Option (Int32 × SMM) :=
  if x1 = 0 then
    m_MM_fails_j16 Mm
  else
    if (MM_err Mm) = 0 then
      m_MM_fails_j16 (MM_mk x2 (MM_fed Mm) (MM_wrong Mm) (MM_octets Mm) (MM_nodeKind Mm) (MM_nodeA Mm) (MM_nodeB Mm) (MM_nodeC Mm) (MM_nodeNext Mm) (MM_low Mm) (MM_high Mm) (MM_setFrom Mm) (MM_setTo Mm) (MM_setNot Mm) (MM_op Mm) (MM_opA Mm) (MM_opB Mm) (MM_mark Mm) (MM_now Mm) (MM_then Mm) (MM_todo Mm) (MM_nodes Mm) (MM_sets Mm) (MM_ranges Mm) (MM_steps Mm) (MM_pat Mm) (MM_patEnd Mm) (MM_round Mm) (MM_many1 Mm) (MM_broken Mm) (MM_keys Mm) (MM_types Mm) (MM_checked Mm) (MM_faultKind Mm) (MM_faultValue Mm) (MM_latestFault Mm) (MM_anchors Mm) (MM_key Mm) (MM_target Mm) (MM_anchorValue Mm) (MM_anchorSchema Mm) (MM_path Mm) (MM_route Mm) (MM_isSchema Mm) (MM_seen1 Mm) (MM_pathSize Mm) (MM_octetRow Mm) (MM_partRow Mm) (MM_pairValue Mm) (MM_pairKey Mm) (MM_pairs Mm) (MM_judged Mm) (MM_deepest Mm) (MM_depth Mm) (MM_over Mm) (MM_seen Mm))
    else
      m_MM_fails_j16 Mm
def m_MM_in (x0 : Int32) (x1 : Int32) (x2 : Int32) : Option (Int32) :=
  if x0 < x1 then
    some (0:Int32)
  else
    if x2 < x0 then
      some (0:Int32)
    else
      some (1:Int32)
def m_MM_feed_j89 (n : Nat) (x1 : Int32) (x2 : Int32) (x3 : Int32) (x4 : Int32) (x5 : Int32) (x6 : Int32) (y0 : Int32) (Mm : SMM) : Option (Nat × Int32 × SMM) :=
  o_gd (o_in (MM_fed Mm) 8200) <|
  o_nm (x6 + (1:Int32)) fun x6_124 =>
  some (0, x6_124, (MM_mk (MM_err Mm) ((MM_fed Mm) + (1:Int32)) (MM_wrong Mm) (upd (MM_octets Mm) (MM_fed Mm).toNatClampNeg ((y0.toUInt32 >>> (((24:Int32) - ((8:Int32) * (x6 &&& (3:Int32)))).toUInt32 &&& Int32.toUInt32 31)).toInt32 &&& (255:Int32))) (MM_nodeKind Mm) (MM_nodeA Mm) (MM_nodeB Mm) (MM_nodeC Mm) (MM_nodeNext Mm) (MM_low Mm) (MM_high Mm) (MM_setFrom Mm) (MM_setTo Mm) (MM_setNot Mm) (MM_op Mm) (MM_opA Mm) (MM_opB Mm) (MM_mark Mm) (MM_now Mm) (MM_then Mm) (MM_todo Mm) (MM_nodes Mm) (MM_sets Mm) (MM_ranges Mm) (MM_steps Mm) (MM_pat Mm) (MM_patEnd Mm) (MM_round Mm) (MM_many1 Mm) (MM_broken Mm) (MM_keys Mm) (MM_types Mm) (MM_checked Mm) (MM_faultKind Mm) (MM_faultValue Mm) (MM_latestFault Mm) (MM_anchors Mm) (MM_key Mm) (MM_target Mm) (MM_anchorValue Mm) (MM_anchorSchema Mm) (MM_path Mm) (MM_route Mm) (MM_isSchema Mm) (MM_seen1 Mm) (MM_pathSize Mm) (MM_octetRow Mm) (MM_partRow Mm) (MM_pairValue Mm) (MM_pairKey Mm) (MM_pairs Mm) (MM_judged Mm) (MM_deepest Mm) (MM_depth Mm) (MM_over Mm) (MM_seen Mm)))
def m_MM_feed_b36 (n : Nat) (x1 : Int32) (x2 : Int32) (x3 : Int32) (x4 : Int32) (x5 : Int32) (z : Int32 × SMM) : Option (Nat × Int32 × SMM) :=
  if (20:Int32) ≤ z.1 then
    some (1, z.1, z.2)
  else
    if (4:Int32) ≤ z.1 then
      if (8:Int32) ≤ z.1 then
        if (12:Int32) ≤ z.1 then
          if (16:Int32) ≤ z.1 then
            m_MM_feed_j89 n x1 x2 x3 x4 x5 z.1 x5 z.2
          else
            m_MM_feed_j89 n x1 x2 x3 x4 x5 z.1 x4 z.2
        else
          m_MM_feed_j89 n x1 x2 x3 x4 x5 z.1 x3 z.2
      else
        m_MM_feed_j89 n x1 x2 x3 x4 x5 z.1 x2 z.2
    else
      m_MM_feed_j89 n x1 x2 x3 x4 x5 z.1 x1 z.2
def m_MM_feed_j24 (n : Nat) (x1 : Int32) (x2 : Int32) (x3 : Int32) (x4 : Int32) (x5 : Int32) (y1 : Int32) (Mm : SMM) : Option (Int32 × SMM) :=
  o_bd (m_MM_fails y1 (1:Int32) Mm) fun q1 =>
  if q1.1 = 0 then
    o_bd (o_lp n (m_MM_feed_b36 n x1 x2 x3 x4 x5) ((0:Int32), q1.2)) fun q2 =>
    some ((MM_fed q2.2.2), q2.2.2)
  else
    some ((0:Int32), q1.2)
def m_MM_feed (n : Nat) (x1 : Int32) (x2 : Int32) (x3 : Int32) (x4 : Int32) (x5 : Int32) (Mm : SMM) : Option (Int32 × SMM) :=
  if ((MM_fed Mm) + (20:Int32)) ≤ (8200:Int32) then
    m_MM_feed_j24 n x1 x2 x3 x4 x5 (0:Int32) (MM_mk (0:Int32) (MM_fed Mm) (MM_wrong Mm) (MM_octets Mm) (MM_nodeKind Mm) (MM_nodeA Mm) (MM_nodeB Mm) (MM_nodeC Mm) (MM_nodeNext Mm) (MM_low Mm) (MM_high Mm) (MM_setFrom Mm) (MM_setTo Mm) (MM_setNot Mm) (MM_op Mm) (MM_opA Mm) (MM_opB Mm) (MM_mark Mm) (MM_now Mm) (MM_then Mm) (MM_todo Mm) (MM_nodes Mm) (MM_sets Mm) (MM_ranges Mm) (MM_steps Mm) (MM_pat Mm) (MM_patEnd Mm) (MM_round Mm) (MM_many1 Mm) (MM_broken Mm) (MM_keys Mm) (MM_types Mm) (MM_checked Mm) (MM_faultKind Mm) (MM_faultValue Mm) (MM_latestFault Mm) (MM_anchors Mm) (MM_key Mm) (MM_target Mm) (MM_anchorValue Mm) (MM_anchorSchema Mm) (MM_path Mm) (MM_route Mm) (MM_isSchema Mm) (MM_seen1 Mm) (MM_pathSize Mm) (MM_octetRow Mm) (MM_partRow Mm) (MM_pairValue Mm) (MM_pairKey Mm) (MM_pairs Mm) (MM_judged Mm) (MM_deepest Mm) (MM_depth Mm) (MM_over Mm) (MM_seen Mm))
  else
    m_MM_feed_j24 n x1 x2 x3 x4 x5 (1:Int32) (MM_mk (0:Int32) (MM_fed Mm) (MM_wrong Mm) (MM_octets Mm) (MM_nodeKind Mm) (MM_nodeA Mm) (MM_nodeB Mm) (MM_nodeC Mm) (MM_nodeNext Mm) (MM_low Mm) (MM_high Mm) (MM_setFrom Mm) (MM_setTo Mm) (MM_setNot Mm) (MM_op Mm) (MM_opA Mm) (MM_opB Mm) (MM_mark Mm) (MM_now Mm) (MM_then Mm) (MM_todo Mm) (MM_nodes Mm) (MM_sets Mm) (MM_ranges Mm) (MM_steps Mm) (MM_pat Mm) (MM_patEnd Mm) (MM_round Mm) (MM_many1 Mm) (MM_broken Mm) (MM_keys Mm) (MM_types Mm) (MM_checked Mm) (MM_faultKind Mm) (MM_faultValue Mm) (MM_latestFault Mm) (MM_anchors Mm) (MM_key Mm) (MM_target Mm) (MM_anchorValue Mm) (MM_anchorSchema Mm) (MM_path Mm) (MM_route Mm) (MM_isSchema Mm) (MM_seen1 Mm) (MM_pathSize Mm) (MM_octetRow Mm) (MM_partRow Mm) (MM_pairValue Mm) (MM_pairKey Mm) (MM_pairs Mm) (MM_judged Mm) (MM_deepest Mm) (MM_depth Mm) (MM_over Mm) (MM_seen Mm))
def m_MT_c (x1 : Int32) (a0 : SMT) : Option (Int32) :=
  if (MT_letters a0) ≤ x1 then
    some (-1:Int32)
  else
    o_gd (o_in x1 8196) <|
    some ((MT_text a0) x1.toNatClampNeg)
def m_MT_blanks_j52 (n : Nat) (a0 : SMT) : Option (Nat × SMT) :=
  some (0, (MT_mk (MT_text a0) (MT_kind a0) (MT_place a0) (MT_many a0) (MT_parent a0) (MT_power a0) (MT_first a0) (MT_next a0) (MT_name a0) (MT_from a0) (MT_characters a0) (MT_digits a0) (MT_minus a0) (MT_values a0) (MT_letters a0) ((MT_at a0) + (1:Int32)) (MT_wrong a0) (MT_used a0) (MT_written a0) (MT_left a0)))
def m_MT_blanks_b0 (n : Nat) (z : SMT) : Option (Nat × SMT) :=
  o_bd (m_MT_c (MT_at z) z) fun q1 =>
  if q1 = (32:Int32) then
    m_MT_blanks_j52 n z
  else
    o_bd (m_MT_c (MT_at z) z) fun q2 =>
    if q2 = (9:Int32) then
      m_MT_blanks_j52 n z
    else
      o_bd (m_MT_c (MT_at z) z) fun q3 =>
      if q3 = (10:Int32) then
        m_MT_blanks_j52 n z
      else
        o_bd (m_MT_c (MT_at z) z) fun q4 =>
        if q4 = (13:Int32) then
          m_MT_blanks_j52 n z
        else
          some (1, z)
def m_MT_blanks (n : Nat) (a0 : SMT) : Option (SMT) :=
  o_bd (o_lp n (m_MT_blanks_b0 n) (a0)) fun q5 =>
  some q5.2
def m_MT_bad (x1 : Int32) (a0 : SMT) : Option (Int32 × SMT) :=
  if 0 ≤ (MT_wrong a0) then
    some ((0:Int32), a0)
  else
    some ((0:Int32), (MT_mk (MT_text a0) (MT_kind a0) (MT_place a0) (MT_many a0) (MT_parent a0) (MT_power a0) (MT_first a0) (MT_next a0) (MT_name a0) (MT_from a0) (MT_characters a0) (MT_digits a0) (MT_minus a0) (MT_values a0) (MT_letters a0) (MT_at a0) x1 (MT_used a0) (MT_written a0) (MT_left a0)))
def m_MT_value_j83 (x1 : Int32) (x2 : Int32) (x3 : Int32) (x4 : Int32) (a0 : SMT) : Option (Int32 × SMT) :=
  if (MT_values a0) = (1000:Int32) then
    o_bd (m_MT_bad (MT_at a0) a0) fun q4 =>
    o_gd (o_zb q4.1) <|
    some (q4.1, q4.2)
  else
    if x3 = (110:Int32) then
      none
    else
      if x3 = (116:Int32) then
        none
      else
        if x3 = (102:Int32) then
          none
        else
          if x3 = (34:Int32) then
            none
          else
            if x4 = 0 then
              if x2 = (40:Int32) then
                o_bd (m_MT_bad (MT_at a0) a0) fun q3 =>
                o_gd (o_zb q3.1) <|
                some (q3.1, q3.2)
              else
                if x3 = (91:Int32) then
                  none
                else
                  none
            else
              none
def m_MT_value_j31 (x1 : Int32) (x2 : Int32) (x3 : Int32) (y0 : Int32) (a0 : SMT) : Option (Int32 × SMT) :=
  if x3 = (110:Int32) then
    m_MT_value_j83 x1 x2 x3 y0 a0
  else
    if x3 = (116:Int32) then
      m_MT_value_j83 x1 x2 x3 y0 a0
    else
      if x3 = (102:Int32) then
        m_MT_value_j83 x1 x2 x3 y0 a0
      else
        if x3 = (34:Int32) then
          m_MT_value_j83 x1 x2 x3 y0 a0
        else
          if x3 = (91:Int32) then
            m_MT_value_j83 x1 x2 x3 y0 a0
          else
            if x3 = (123:Int32) then
              m_MT_value_j83 x1 x2 x3 y0 a0
            else
              if y0 = 0 then
                o_bd (m_MT_bad (MT_at a0) a0) fun q5 =>
                o_gd (o_zb q5.1) <|
                some (q5.1, q5.2)
              else
                m_MT_value_j83 x1 x2 x3 y0 a0
def m_MT_value (x1 : Int32) (x2 : Int32) (a0 : SMT) : Option (Int32 × SMT) :=
  o_bd (m_MT_c (MT_at a0) a0) fun q1 =>
  o_bd (m_MM_in q1 (48:Int32) (57:Int32)) fun q2 =>
  if q2 = 0 then
    if q1 = (45:Int32) then
      m_MT_value_j31 x1 x2 q1 (1:Int32) a0
    else
      m_MT_value_j31 x1 x2 q1 (0:Int32) a0
  else
    m_MT_value_j31 x1 x2 q1 (1:Int32) a0
def m_MT_read_j67 (n : Nat) (a0 : SMT) : Option (Int32 × SMT) :=
  if (MT_wrong a0) < 0 then
    some ((MT_wrong a0), a0)
  else
    some ((MT_wrong a0), (MT_mk (MT_text a0) (MT_kind a0) (MT_place a0) (MT_many a0) (MT_parent a0) (MT_power a0) (MT_first a0) (MT_next a0) (MT_name a0) (MT_from a0) (MT_characters a0) (MT_digits a0) (MT_minus a0) (0:Int32) (MT_letters a0) (MT_at a0) (MT_wrong a0) (MT_used a0) (MT_written a0) (MT_left a0)))
def m_MT_read (n : Nat) (x1 : Int32) (a0 : SMT) : Option (Int32 × SMT) :=
  o_bd (m_MT_blanks n (MT_mk (MT_text a0) (MT_kind a0) (MT_place a0) (MT_many a0) (MT_parent a0) (MT_power a0) (MT_first a0) (MT_next a0) (MT_name a0) (MT_from a0) (MT_characters a0) (MT_digits a0) (MT_minus a0) (0:Int32) x1 (0:Int32) (-1:Int32) (0:Int32) (0:Int32) (MT_left a0))) fun q1 =>
  o_bd (m_MT_value (-1:Int32) (0:Int32) q1) fun q2 =>
  if q2.1 = 0 then
    m_MT_read_j67 n q2.2
  else
    o_bd (m_MT_blanks n q2.2) fun q3 =>
    if (MT_letters q3) ≤ (MT_at q3) then
      m_MT_read_j67 n q3
    else
      o_bd (m_MT_bad (MT_at q3) q3) fun q4 =>
      m_MT_read_j67 n q4.2
def m_MM_end_b63 (n : Nat) (x1 : Int32) (x2 : Int32) (Mm : SMM) (z : Int32 × SMT × SMT) : Option (Nat × Int32 × SMT × SMT) :=
  if x2 ≤ z.1 then
    some (1, z.1, z.2.1, z.2.2)
  else
    o_gd (o_in z.1 8200) <|
    o_gd (o_in z.1 8196) <|
    o_nm (z.1 + (1:Int32)) fun x4_83 =>
    some (0, x4_83, z.2.1, (MT_mk (upd (MT_text z.2.2) z.1.toNatClampNeg ((MM_octets Mm) z.1.toNatClampNeg)) (MT_kind z.2.2) (MT_place z.2.2) (MT_many z.2.2) (MT_parent z.2.2) (MT_power z.2.2) (MT_first z.2.2) (MT_next z.2.2) (MT_name z.2.2) (MT_from z.2.2) (MT_characters z.2.2) (MT_digits z.2.2) (MT_minus z.2.2) (MT_values z.2.2) (MT_letters z.2.2) (MT_at z.2.2) (MT_wrong z.2.2) (MT_used z.2.2) (MT_written z.2.2) (MT_left z.2.2)))
def m_MM_end_j125 (n : Nat) (y1 : Int32) (M0 : SMT) (M1 : SMT) (Mm : SMM) : Option (Int32 × SMT × SMT × SMM) :=
  o_bd (m_MM_fails y1 (2:Int32) Mm) fun q4 =>
  if q4.1 = 0 then
    some ((MT_values M1), M0, M1, q4.2)
  else
    some ((0:Int32), M0, M1, q4.2)
def m_MM_end_j103 (n : Nat) (x2 : Int32) (M0 : SMT) (M1 : SMT) (Mm : SMM) : Option (Int32 × SMT × SMT × SMM) :=
  o_bd (m_MT_read n x2 M1) fun q3 =>
  if q3.1 < 0 then
    m_MM_end_j125 n (0:Int32) M0 q3.2 (MM_mk (MM_err Mm) (MM_fed Mm) q3.1 (MM_octets Mm) (MM_nodeKind Mm) (MM_nodeA Mm) (MM_nodeB Mm) (MM_nodeC Mm) (MM_nodeNext Mm) (MM_low Mm) (MM_high Mm) (MM_setFrom Mm) (MM_setTo Mm) (MM_setNot Mm) (MM_op Mm) (MM_opA Mm) (MM_opB Mm) (MM_mark Mm) (MM_now Mm) (MM_then Mm) (MM_todo Mm) (MM_nodes Mm) (MM_sets Mm) (MM_ranges Mm) (MM_steps Mm) (MM_pat Mm) (MM_patEnd Mm) (MM_round Mm) (MM_many1 Mm) (MM_broken Mm) (MM_keys Mm) (MM_types Mm) (MM_checked Mm) (MM_faultKind Mm) (MM_faultValue Mm) (MM_latestFault Mm) (MM_anchors Mm) (MM_key Mm) (MM_target Mm) (MM_anchorValue Mm) (MM_anchorSchema Mm) (MM_path Mm) (MM_route Mm) (MM_isSchema Mm) (MM_seen1 Mm) (MM_pathSize Mm) (MM_octetRow Mm) (MM_partRow Mm) (MM_pairValue Mm) (MM_pairKey Mm) (MM_pairs Mm) (MM_judged Mm) (MM_deepest Mm) (MM_depth Mm) (MM_over Mm) (MM_seen Mm))
  else
    m_MM_end_j125 n (1:Int32) M0 q3.2 (MM_mk (MM_err Mm) (MM_fed Mm) q3.1 (MM_octets Mm) (MM_nodeKind Mm) (MM_nodeA Mm) (MM_nodeB Mm) (MM_nodeC Mm) (MM_nodeNext Mm) (MM_low Mm) (MM_high Mm) (MM_setFrom Mm) (MM_setTo Mm) (MM_setNot Mm) (MM_op Mm) (MM_opA Mm) (MM_opB Mm) (MM_mark Mm) (MM_now Mm) (MM_then Mm) (MM_todo Mm) (MM_nodes Mm) (MM_sets Mm) (MM_ranges Mm) (MM_steps Mm) (MM_pat Mm) (MM_patEnd Mm) (MM_round Mm) (MM_many1 Mm) (MM_broken Mm) (MM_keys Mm) (MM_types Mm) (MM_checked Mm) (MM_faultKind Mm) (MM_faultValue Mm) (MM_latestFault Mm) (MM_anchors Mm) (MM_key Mm) (MM_target Mm) (MM_anchorValue Mm) (MM_anchorSchema Mm) (MM_path Mm) (MM_route Mm) (MM_isSchema Mm) (MM_seen1 Mm) (MM_pathSize Mm) (MM_octetRow Mm) (MM_partRow Mm) (MM_pairValue Mm) (MM_pairKey Mm) (MM_pairs Mm) (MM_judged Mm) (MM_deepest Mm) (MM_depth Mm) (MM_over Mm) (MM_seen Mm))
def m_MM_end_b63v5 (n : Nat) (x1 : Int32) (x2 : Int32) (Mm : SMM) (z : Int32 × SMT × SMT) : Option (Nat × Int32 × SMT × SMT) :=
  if x2 ≤ z.1 then
    some (1, z.1, z.2.1, z.2.2)
  else
    o_gd (o_in z.1 8200) <|
    o_gd (o_in z.1 8196) <|
    o_nm (z.1 + (1:Int32)) fun x4_83 =>
    some (0, x4_83, (MT_mk (upd (MT_text z.2.1) z.1.toNatClampNeg ((MM_octets Mm) z.1.toNatClampNeg)) (MT_kind z.2.1) (MT_place z.2.1) (MT_many z.2.1) (MT_parent z.2.1) (MT_power z.2.1) (MT_first z.2.1) (MT_next z.2.1) (MT_name z.2.1) (MT_from z.2.1) (MT_characters z.2.1) (MT_digits z.2.1) (MT_minus z.2.1) (MT_values z.2.1) (MT_letters z.2.1) (MT_at z.2.1) (MT_wrong z.2.1) (MT_used z.2.1) (MT_written z.2.1) (MT_left z.2.1)), z.2.2)
def m_MM_end_j125v9 (n : Nat) (y1 : Int32) (M0 : SMT) (M1 : SMT) (Mm : SMM) : Option (Int32 × SMT × SMT × SMM) :=
  o_bd (m_MM_fails y1 (2:Int32) Mm) fun q10 =>
  if q10.1 = 0 then
    some ((MT_values M0), M0, M1, q10.2)
  else
    some ((0:Int32), M0, M1, q10.2)
def m_MM_end_j103v7 (n : Nat) (x2 : Int32) (M0 : SMT) (M1 : SMT) (Mm : SMM) : Option (Int32 × SMT × SMT × SMM) :=
  o_bd (m_MT_read n x2 M0) fun q8 =>
  if q8.1 < 0 then
    m_MM_end_j125v9 n (0:Int32) q8.2 M1 (MM_mk (MM_err Mm) (MM_fed Mm) q8.1 (MM_octets Mm) (MM_nodeKind Mm) (MM_nodeA Mm) (MM_nodeB Mm) (MM_nodeC Mm) (MM_nodeNext Mm) (MM_low Mm) (MM_high Mm) (MM_setFrom Mm) (MM_setTo Mm) (MM_setNot Mm) (MM_op Mm) (MM_opA Mm) (MM_opB Mm) (MM_mark Mm) (MM_now Mm) (MM_then Mm) (MM_todo Mm) (MM_nodes Mm) (MM_sets Mm) (MM_ranges Mm) (MM_steps Mm) (MM_pat Mm) (MM_patEnd Mm) (MM_round Mm) (MM_many1 Mm) (MM_broken Mm) (MM_keys Mm) (MM_types Mm) (MM_checked Mm) (MM_faultKind Mm) (MM_faultValue Mm) (MM_latestFault Mm) (MM_anchors Mm) (MM_key Mm) (MM_target Mm) (MM_anchorValue Mm) (MM_anchorSchema Mm) (MM_path Mm) (MM_route Mm) (MM_isSchema Mm) (MM_seen1 Mm) (MM_pathSize Mm) (MM_octetRow Mm) (MM_partRow Mm) (MM_pairValue Mm) (MM_pairKey Mm) (MM_pairs Mm) (MM_judged Mm) (MM_deepest Mm) (MM_depth Mm) (MM_over Mm) (MM_seen Mm))
  else
    m_MM_end_j125v9 n (1:Int32) q8.2 M1 (MM_mk (MM_err Mm) (MM_fed Mm) q8.1 (MM_octets Mm) (MM_nodeKind Mm) (MM_nodeA Mm) (MM_nodeB Mm) (MM_nodeC Mm) (MM_nodeNext Mm) (MM_low Mm) (MM_high Mm) (MM_setFrom Mm) (MM_setTo Mm) (MM_setNot Mm) (MM_op Mm) (MM_opA Mm) (MM_opB Mm) (MM_mark Mm) (MM_now Mm) (MM_then Mm) (MM_todo Mm) (MM_nodes Mm) (MM_sets Mm) (MM_ranges Mm) (MM_steps Mm) (MM_pat Mm) (MM_patEnd Mm) (MM_round Mm) (MM_many1 Mm) (MM_broken Mm) (MM_keys Mm) (MM_types Mm) (MM_checked Mm) (MM_faultKind Mm) (MM_faultValue Mm) (MM_latestFault Mm) (MM_anchors Mm) (MM_key Mm) (MM_target Mm) (MM_anchorValue Mm) (MM_anchorSchema Mm) (MM_path Mm) (MM_route Mm) (MM_isSchema Mm) (MM_seen1 Mm) (MM_pathSize Mm) (MM_octetRow Mm) (MM_partRow Mm) (MM_pairValue Mm) (MM_pairKey Mm) (MM_pairs Mm) (MM_judged Mm) (MM_deepest Mm) (MM_depth Mm) (MM_over Mm) (MM_seen Mm))
def m_MM_end_j30 (n : Nat) (x1 : Int32) (x2 : Int32) (y1 : Int32) (M0 : SMT) (M1 : SMT) (Mm : SMM) : Option (Int32 × SMT × SMT × SMM) :=
  o_bd (m_MM_fails y1 (1:Int32) Mm) fun q1 =>
  if q1.1 = 0 then
    if x1 = 0 then
      o_bd (o_lp n (m_MM_end_b63 n x1 x2 (MM_mk (MM_err q1.2) (0:Int32) (MM_wrong q1.2) (MM_octets q1.2) (MM_nodeKind q1.2) (MM_nodeA q1.2) (MM_nodeB q1.2) (MM_nodeC q1.2) (MM_nodeNext q1.2) (MM_low q1.2) (MM_high q1.2) (MM_setFrom q1.2) (MM_setTo q1.2) (MM_setNot q1.2) (MM_op q1.2) (MM_opA q1.2) (MM_opB q1.2) (MM_mark q1.2) (MM_now q1.2) (MM_then q1.2) (MM_todo q1.2) (MM_nodes q1.2) (MM_sets q1.2) (MM_ranges q1.2) (MM_steps q1.2) (MM_pat q1.2) (MM_patEnd q1.2) (MM_round q1.2) (MM_many1 q1.2) (MM_broken q1.2) (MM_keys q1.2) (MM_types q1.2) (MM_checked q1.2) (MM_faultKind q1.2) (MM_faultValue q1.2) (MM_latestFault q1.2) (MM_anchors q1.2) (MM_key q1.2) (MM_target q1.2) (MM_anchorValue q1.2) (MM_anchorSchema q1.2) (MM_path q1.2) (MM_route q1.2) (MM_isSchema q1.2) (MM_seen1 q1.2) (MM_pathSize q1.2) (MM_octetRow q1.2) (MM_partRow q1.2) (MM_pairValue q1.2) (MM_pairKey q1.2) (MM_pairs q1.2) (MM_judged q1.2) (MM_deepest q1.2) (MM_depth q1.2) (MM_over q1.2) (MM_seen q1.2))) ((0:Int32), M0, M1)) fun q2 =>
      if x1 = 0 then
        m_MM_end_j103 n x2 q2.2.2.1 q2.2.2.2 (MM_mk (MM_err q1.2) (0:Int32) (MM_wrong q1.2) (MM_octets q1.2) (MM_nodeKind q1.2) (MM_nodeA q1.2) (MM_nodeB q1.2) (MM_nodeC q1.2) (MM_nodeNext q1.2) (MM_low q1.2) (MM_high q1.2) (MM_setFrom q1.2) (MM_setTo q1.2) (MM_setNot q1.2) (MM_op q1.2) (MM_opA q1.2) (MM_opB q1.2) (MM_mark q1.2) (MM_now q1.2) (MM_then q1.2) (MM_todo q1.2) (MM_nodes q1.2) (MM_sets q1.2) (MM_ranges q1.2) (MM_steps q1.2) (MM_pat q1.2) (MM_patEnd q1.2) (MM_round q1.2) (MM_many1 q1.2) (MM_broken q1.2) (MM_keys q1.2) (MM_types q1.2) (MM_checked q1.2) (MM_faultKind q1.2) (MM_faultValue q1.2) (MM_latestFault q1.2) (MM_anchors q1.2) (MM_key q1.2) (MM_target q1.2) (MM_anchorValue q1.2) (MM_anchorSchema q1.2) (MM_path q1.2) (MM_route q1.2) (MM_isSchema q1.2) (MM_seen1 q1.2) (MM_pathSize q1.2) (MM_octetRow q1.2) (MM_partRow q1.2) (MM_pairValue q1.2) (MM_pairKey q1.2) (MM_pairs q1.2) (MM_judged q1.2) (MM_deepest q1.2) (MM_depth q1.2) (MM_over q1.2) (MM_seen q1.2))
      else
        m_MM_end_j103 n x2 q2.2.2.1 q2.2.2.2 (MM_mk (MM_err q1.2) (0:Int32) (MM_wrong q1.2) (MM_octets q1.2) (MM_nodeKind q1.2) (MM_nodeA q1.2) (MM_nodeB q1.2) (MM_nodeC q1.2) (MM_nodeNext q1.2) (MM_low q1.2) (MM_high q1.2) (MM_setFrom q1.2) (MM_setTo q1.2) (MM_setNot q1.2) (MM_op q1.2) (MM_opA q1.2) (MM_opB q1.2) (MM_mark q1.2) (MM_now q1.2) (MM_then q1.2) (MM_todo q1.2) (MM_nodes q1.2) (MM_sets q1.2) (MM_ranges q1.2) (MM_steps q1.2) (MM_pat q1.2) (MM_patEnd q1.2) (MM_round q1.2) (MM_many1 q1.2) (MM_broken q1.2) (MM_keys q1.2) (MM_types q1.2) (0:Int32) (MM_faultKind q1.2) (MM_faultValue q1.2) (-1:Int32) (MM_anchors q1.2) (MM_key q1.2) (MM_target q1.2) (MM_anchorValue q1.2) (MM_anchorSchema q1.2) (MM_path q1.2) (MM_route q1.2) (MM_isSchema q1.2) (MM_seen1 q1.2) (MM_pathSize q1.2) (MM_octetRow q1.2) (MM_partRow q1.2) (MM_pairValue q1.2) (MM_pairKey q1.2) (MM_pairs q1.2) (MM_judged q1.2) (MM_deepest q1.2) (MM_depth q1.2) (MM_over q1.2) (MM_seen q1.2))
    else
      o_bd (o_lp n (m_MM_end_b63v5 n x1 x2 (MM_mk (MM_err q1.2) (0:Int32) (MM_wrong q1.2) (MM_octets q1.2) (MM_nodeKind q1.2) (MM_nodeA q1.2) (MM_nodeB q1.2) (MM_nodeC q1.2) (MM_nodeNext q1.2) (MM_low q1.2) (MM_high q1.2) (MM_setFrom q1.2) (MM_setTo q1.2) (MM_setNot q1.2) (MM_op q1.2) (MM_opA q1.2) (MM_opB q1.2) (MM_mark q1.2) (MM_now q1.2) (MM_then q1.2) (MM_todo q1.2) (MM_nodes q1.2) (MM_sets q1.2) (MM_ranges q1.2) (MM_steps q1.2) (MM_pat q1.2) (MM_patEnd q1.2) (MM_round q1.2) (MM_many1 q1.2) (MM_broken q1.2) (MM_keys q1.2) (MM_types q1.2) (MM_checked q1.2) (MM_faultKind q1.2) (MM_faultValue q1.2) (MM_latestFault q1.2) (MM_anchors q1.2) (MM_key q1.2) (MM_target q1.2) (MM_anchorValue q1.2) (MM_anchorSchema q1.2) (MM_path q1.2) (MM_route q1.2) (MM_isSchema q1.2) (MM_seen1 q1.2) (MM_pathSize q1.2) (MM_octetRow q1.2) (MM_partRow q1.2) (MM_pairValue q1.2) (MM_pairKey q1.2) (MM_pairs q1.2) (MM_judged q1.2) (MM_deepest q1.2) (MM_depth q1.2) (MM_over q1.2) (MM_seen q1.2))) ((0:Int32), M0, M1)) fun q6 =>
      if x1 = 0 then
        m_MM_end_j103v7 n x2 q6.2.2.1 q6.2.2.2 (MM_mk (MM_err q1.2) (0:Int32) (MM_wrong q1.2) (MM_octets q1.2) (MM_nodeKind q1.2) (MM_nodeA q1.2) (MM_nodeB q1.2) (MM_nodeC q1.2) (MM_nodeNext q1.2) (MM_low q1.2) (MM_high q1.2) (MM_setFrom q1.2) (MM_setTo q1.2) (MM_setNot q1.2) (MM_op q1.2) (MM_opA q1.2) (MM_opB q1.2) (MM_mark q1.2) (MM_now q1.2) (MM_then q1.2) (MM_todo q1.2) (MM_nodes q1.2) (MM_sets q1.2) (MM_ranges q1.2) (MM_steps q1.2) (MM_pat q1.2) (MM_patEnd q1.2) (MM_round q1.2) (MM_many1 q1.2) (MM_broken q1.2) (MM_keys q1.2) (MM_types q1.2) (MM_checked q1.2) (MM_faultKind q1.2) (MM_faultValue q1.2) (MM_latestFault q1.2) (MM_anchors q1.2) (MM_key q1.2) (MM_target q1.2) (MM_anchorValue q1.2) (MM_anchorSchema q1.2) (MM_path q1.2) (MM_route q1.2) (MM_isSchema q1.2) (MM_seen1 q1.2) (MM_pathSize q1.2) (MM_octetRow q1.2) (MM_partRow q1.2) (MM_pairValue q1.2) (MM_pairKey q1.2) (MM_pairs q1.2) (MM_judged q1.2) (MM_deepest q1.2) (MM_depth q1.2) (MM_over q1.2) (MM_seen q1.2))
      else
        m_MM_end_j103v7 n x2 q6.2.2.1 q6.2.2.2 (MM_mk (MM_err q1.2) (0:Int32) (MM_wrong q1.2) (MM_octets q1.2) (MM_nodeKind q1.2) (MM_nodeA q1.2) (MM_nodeB q1.2) (MM_nodeC q1.2) (MM_nodeNext q1.2) (MM_low q1.2) (MM_high q1.2) (MM_setFrom q1.2) (MM_setTo q1.2) (MM_setNot q1.2) (MM_op q1.2) (MM_opA q1.2) (MM_opB q1.2) (MM_mark q1.2) (MM_now q1.2) (MM_then q1.2) (MM_todo q1.2) (MM_nodes q1.2) (MM_sets q1.2) (MM_ranges q1.2) (MM_steps q1.2) (MM_pat q1.2) (MM_patEnd q1.2) (MM_round q1.2) (MM_many1 q1.2) (MM_broken q1.2) (MM_keys q1.2) (MM_types q1.2) (0:Int32) (MM_faultKind q1.2) (MM_faultValue q1.2) (-1:Int32) (MM_anchors q1.2) (MM_key q1.2) (MM_target q1.2) (MM_anchorValue q1.2) (MM_anchorSchema q1.2) (MM_path q1.2) (MM_route q1.2) (MM_isSchema q1.2) (MM_seen1 q1.2) (MM_pathSize q1.2) (MM_octetRow q1.2) (MM_partRow q1.2) (MM_pairValue q1.2) (MM_pairKey q1.2) (MM_pairs q1.2) (MM_judged q1.2) (MM_deepest q1.2) (MM_depth q1.2) (MM_over q1.2) (MM_seen q1.2))
  else
    some ((0:Int32), M0, M1, q1.2)
def m_MM_end (n : Nat) (x1 : Int32) (x2 : Int32) (M0 : SMT) (M1 : SMT) (Mm : SMM) : Option (Int32 × SMT × SMT × SMM) :=
  if x2 < 0 then
    m_MM_end_j30 n x1 x2 (1:Int32) M0 M1 (MM_mk (0:Int32) (MM_fed Mm) (MM_wrong Mm) (MM_octets Mm) (MM_nodeKind Mm) (MM_nodeA Mm) (MM_nodeB Mm) (MM_nodeC Mm) (MM_nodeNext Mm) (MM_low Mm) (MM_high Mm) (MM_setFrom Mm) (MM_setTo Mm) (MM_setNot Mm) (MM_op Mm) (MM_opA Mm) (MM_opB Mm) (MM_mark Mm) (MM_now Mm) (MM_then Mm) (MM_todo Mm) (MM_nodes Mm) (MM_sets Mm) (MM_ranges Mm) (MM_steps Mm) (MM_pat Mm) (MM_patEnd Mm) (MM_round Mm) (MM_many1 Mm) (MM_broken Mm) (MM_keys Mm) (MM_types Mm) (MM_checked Mm) (MM_faultKind Mm) (MM_faultValue Mm) (MM_latestFault Mm) (MM_anchors Mm) (MM_key Mm) (MM_target Mm) (MM_anchorValue Mm) (MM_anchorSchema Mm) (MM_path Mm) (MM_route Mm) (MM_isSchema Mm) (MM_seen1 Mm) (MM_pathSize Mm) (MM_octetRow Mm) (MM_partRow Mm) (MM_pairValue Mm) (MM_pairKey Mm) (MM_pairs Mm) (MM_judged Mm) (MM_deepest Mm) (MM_depth Mm) (MM_over Mm) (MM_seen Mm))
  else
    if (8192:Int32) < x2 then
      m_MM_end_j30 n x1 x2 (1:Int32) M0 M1 (MM_mk (0:Int32) (MM_fed Mm) (MM_wrong Mm) (MM_octets Mm) (MM_nodeKind Mm) (MM_nodeA Mm) (MM_nodeB Mm) (MM_nodeC Mm) (MM_nodeNext Mm) (MM_low Mm) (MM_high Mm) (MM_setFrom Mm) (MM_setTo Mm) (MM_setNot Mm) (MM_op Mm) (MM_opA Mm) (MM_opB Mm) (MM_mark Mm) (MM_now Mm) (MM_then Mm) (MM_todo Mm) (MM_nodes Mm) (MM_sets Mm) (MM_ranges Mm) (MM_steps Mm) (MM_pat Mm) (MM_patEnd Mm) (MM_round Mm) (MM_many1 Mm) (MM_broken Mm) (MM_keys Mm) (MM_types Mm) (MM_checked Mm) (MM_faultKind Mm) (MM_faultValue Mm) (MM_latestFault Mm) (MM_anchors Mm) (MM_key Mm) (MM_target Mm) (MM_anchorValue Mm) (MM_anchorSchema Mm) (MM_path Mm) (MM_route Mm) (MM_isSchema Mm) (MM_seen1 Mm) (MM_pathSize Mm) (MM_octetRow Mm) (MM_partRow Mm) (MM_pairValue Mm) (MM_pairKey Mm) (MM_pairs Mm) (MM_judged Mm) (MM_deepest Mm) (MM_depth Mm) (MM_over Mm) (MM_seen Mm))
    else
      if x2 ≤ (MM_fed Mm) then
        m_MM_end_j30 n x1 x2 (0:Int32) M0 M1 (MM_mk (0:Int32) (MM_fed Mm) (MM_wrong Mm) (MM_octets Mm) (MM_nodeKind Mm) (MM_nodeA Mm) (MM_nodeB Mm) (MM_nodeC Mm) (MM_nodeNext Mm) (MM_low Mm) (MM_high Mm) (MM_setFrom Mm) (MM_setTo Mm) (MM_setNot Mm) (MM_op Mm) (MM_opA Mm) (MM_opB Mm) (MM_mark Mm) (MM_now Mm) (MM_then Mm) (MM_todo Mm) (MM_nodes Mm) (MM_sets Mm) (MM_ranges Mm) (MM_steps Mm) (MM_pat Mm) (MM_patEnd Mm) (MM_round Mm) (MM_many1 Mm) (MM_broken Mm) (MM_keys Mm) (MM_types Mm) (MM_checked Mm) (MM_faultKind Mm) (MM_faultValue Mm) (MM_latestFault Mm) (MM_anchors Mm) (MM_key Mm) (MM_target Mm) (MM_anchorValue Mm) (MM_anchorSchema Mm) (MM_path Mm) (MM_route Mm) (MM_isSchema Mm) (MM_seen1 Mm) (MM_pathSize Mm) (MM_octetRow Mm) (MM_partRow Mm) (MM_pairValue Mm) (MM_pairKey Mm) (MM_pairs Mm) (MM_judged Mm) (MM_deepest Mm) (MM_depth Mm) (MM_over Mm) (MM_seen Mm))
      else
        m_MM_end_j30 n x1 x2 (1:Int32) M0 M1 (MM_mk (0:Int32) (MM_fed Mm) (MM_wrong Mm) (MM_octets Mm) (MM_nodeKind Mm) (MM_nodeA Mm) (MM_nodeB Mm) (MM_nodeC Mm) (MM_nodeNext Mm) (MM_low Mm) (MM_high Mm) (MM_setFrom Mm) (MM_setTo Mm) (MM_setNot Mm) (MM_op Mm) (MM_opA Mm) (MM_opB Mm) (MM_mark Mm) (MM_now Mm) (MM_then Mm) (MM_todo Mm) (MM_nodes Mm) (MM_sets Mm) (MM_ranges Mm) (MM_steps Mm) (MM_pat Mm) (MM_patEnd Mm) (MM_round Mm) (MM_many1 Mm) (MM_broken Mm) (MM_keys Mm) (MM_types Mm) (MM_checked Mm) (MM_faultKind Mm) (MM_faultValue Mm) (MM_latestFault Mm) (MM_anchors Mm) (MM_key Mm) (MM_target Mm) (MM_anchorValue Mm) (MM_anchorSchema Mm) (MM_path Mm) (MM_route Mm) (MM_isSchema Mm) (MM_seen1 Mm) (MM_pathSize Mm) (MM_octetRow Mm) (MM_partRow Mm) (MM_pairValue Mm) (MM_pairKey Mm) (MM_pairs Mm) (MM_judged Mm) (MM_deepest Mm) (MM_depth Mm) (MM_over Mm) (MM_seen Mm))
def m_MM_wrong (Mm : SMM) : Option (Int32 × SMM) :=
  some ((MM_wrong Mm), (MM_mk (0:Int32) (MM_fed Mm) (MM_wrong Mm) (MM_octets Mm) (MM_nodeKind Mm) (MM_nodeA Mm) (MM_nodeB Mm) (MM_nodeC Mm) (MM_nodeNext Mm) (MM_low Mm) (MM_high Mm) (MM_setFrom Mm) (MM_setTo Mm) (MM_setNot Mm) (MM_op Mm) (MM_opA Mm) (MM_opB Mm) (MM_mark Mm) (MM_now Mm) (MM_then Mm) (MM_todo Mm) (MM_nodes Mm) (MM_sets Mm) (MM_ranges Mm) (MM_steps Mm) (MM_pat Mm) (MM_patEnd Mm) (MM_round Mm) (MM_many1 Mm) (MM_broken Mm) (MM_keys Mm) (MM_types Mm) (MM_checked Mm) (MM_faultKind Mm) (MM_faultValue Mm) (MM_latestFault Mm) (MM_anchors Mm) (MM_key Mm) (MM_target Mm) (MM_anchorValue Mm) (MM_anchorSchema Mm) (MM_path Mm) (MM_route Mm) (MM_isSchema Mm) (MM_seen1 Mm) (MM_pathSize Mm) (MM_octetRow Mm) (MM_partRow Mm) (MM_pairValue Mm) (MM_pairKey Mm) (MM_pairs Mm) (MM_judged Mm) (MM_deepest Mm) (MM_depth Mm) (MM_over Mm) (MM_seen Mm)))
def m_MM_check_b42 (n : Nat) (M0 : SMT) (z : Int32 × SMM) : Option (Nat × Int32 × SMM) :=
  if (1000:Int32) ≤ z.1 then
    some (1, z.1, z.2)
  else
    o_gd (o_in z.1 1000) <|
    o_gd (o_in z.1 1000) <|
    o_gd (o_in z.1 1000) <|
    o_nm (z.1 + (1:Int32)) fun x1_70 =>
    some (0, x1_70, (MM_mk (MM_err z.2) (MM_fed z.2) (MM_wrong z.2) (MM_octets z.2) (MM_nodeKind z.2) (MM_nodeA z.2) (MM_nodeB z.2) (MM_nodeC z.2) (MM_nodeNext z.2) (MM_low z.2) (MM_high z.2) (MM_setFrom z.2) (MM_setTo z.2) (MM_setNot z.2) (MM_op z.2) (MM_opA z.2) (MM_opB z.2) (MM_mark z.2) (MM_now z.2) (MM_then z.2) (MM_todo z.2) (MM_nodes z.2) (MM_sets z.2) (MM_ranges z.2) (MM_steps z.2) (MM_pat z.2) (MM_patEnd z.2) (MM_round z.2) (MM_many1 z.2) (MM_broken z.2) (MM_keys z.2) (MM_types z.2) (MM_checked z.2) (MM_faultKind z.2) (MM_faultValue z.2) (MM_latestFault z.2) (MM_anchors z.2) (upd (MM_key z.2) z.1.toNatClampNeg (-1:Int32)) (upd (MM_target z.2) z.1.toNatClampNeg (-1:Int32)) (MM_anchorValue z.2) (MM_anchorSchema z.2) (MM_path z.2) (MM_route z.2) (upd (MM_isSchema z.2) z.1.toNatClampNeg (vp_nar .boolean (0:Int32))) (MM_seen1 z.2) (MM_pathSize z.2) (MM_octetRow z.2) (MM_partRow z.2) (MM_pairValue z.2) (MM_pairKey z.2) (MM_pairs z.2) (MM_judged z.2) (MM_deepest z.2) (MM_depth z.2) (MM_over z.2) (MM_seen z.2)))
def m_MM_check_j21 (n : Nat) (y1 : Int32) (M0 : SMT) (Mm : SMM) : Option (Int32 × SMM) :=
  o_bd (m_MM_fails y1 (1:Int32) Mm) fun q1 =>
  if q1.1 = 0 then
    o_bd (o_lp n (m_MM_check_b42 n M0) ((0:Int32), (MM_mk (MM_err q1.2) (MM_fed q1.2) (MM_wrong q1.2) (MM_octets q1.2) (MM_nodeKind q1.2) (MM_nodeA q1.2) (MM_nodeB q1.2) (MM_nodeC q1.2) (MM_nodeNext q1.2) (MM_low q1.2) (MM_high q1.2) (MM_setFrom q1.2) (MM_setTo q1.2) (MM_setNot q1.2) (MM_op q1.2) (MM_opA q1.2) (MM_opB q1.2) (MM_mark q1.2) (MM_now q1.2) (MM_then q1.2) (MM_todo q1.2) (MM_nodes q1.2) (MM_sets q1.2) (MM_ranges q1.2) (MM_steps q1.2) (MM_pat q1.2) (MM_patEnd q1.2) (MM_round q1.2) (MM_many1 q1.2) (MM_broken q1.2) (MM_keys q1.2) (MM_types q1.2) (MM_checked q1.2) (0:Int32) (MM_faultValue q1.2) (MM_latestFault q1.2) (0:Int32) (MM_key q1.2) (MM_target q1.2) (MM_anchorValue q1.2) (MM_anchorSchema q1.2) (MM_path q1.2) (MM_route q1.2) (MM_isSchema q1.2) (MM_seen1 q1.2) (MM_pathSize q1.2) (MM_octetRow q1.2) (MM_partRow q1.2) (MM_pairValue q1.2) (MM_pairKey q1.2) (MM_pairs q1.2) (MM_judged q1.2) (MM_deepest q1.2) (MM_depth q1.2) (MM_over q1.2) (MM_seen q1.2)))) fun q2 =>
    none
  else
    some ((0:Int32), q1.2)
def m_MM_check (n : Nat) (M0 : SMT) (Mm : SMM) : Option (Int32 × SMM) :=
  if (MT_values M0) = 0 then
    m_MM_check_j21 n (1:Int32) M0 (MM_mk (0:Int32) (MM_fed Mm) (MM_wrong Mm) (MM_octets Mm) (MM_nodeKind Mm) (MM_nodeA Mm) (MM_nodeB Mm) (MM_nodeC Mm) (MM_nodeNext Mm) (MM_low Mm) (MM_high Mm) (MM_setFrom Mm) (MM_setTo Mm) (MM_setNot Mm) (MM_op Mm) (MM_opA Mm) (MM_opB Mm) (MM_mark Mm) (MM_now Mm) (MM_then Mm) (MM_todo Mm) (MM_nodes Mm) (MM_sets Mm) (MM_ranges Mm) (MM_steps Mm) (MM_pat Mm) (MM_patEnd Mm) (MM_round Mm) (MM_many1 Mm) (MM_broken Mm) (MM_keys Mm) (MM_types Mm) (MM_checked Mm) (MM_faultKind Mm) (MM_faultValue Mm) (MM_latestFault Mm) (MM_anchors Mm) (MM_key Mm) (MM_target Mm) (MM_anchorValue Mm) (MM_anchorSchema Mm) (MM_path Mm) (MM_route Mm) (MM_isSchema Mm) (MM_seen1 Mm) (MM_pathSize Mm) (MM_octetRow Mm) (MM_partRow Mm) (MM_pairValue Mm) (MM_pairKey Mm) (MM_pairs Mm) (MM_judged Mm) (MM_deepest Mm) (MM_depth Mm) (MM_over Mm) (MM_seen Mm))
  else
    m_MM_check_j21 n (0:Int32) M0 (MM_mk (0:Int32) (MM_fed Mm) (MM_wrong Mm) (MM_octets Mm) (MM_nodeKind Mm) (MM_nodeA Mm) (MM_nodeB Mm) (MM_nodeC Mm) (MM_nodeNext Mm) (MM_low Mm) (MM_high Mm) (MM_setFrom Mm) (MM_setTo Mm) (MM_setNot Mm) (MM_op Mm) (MM_opA Mm) (MM_opB Mm) (MM_mark Mm) (MM_now Mm) (MM_then Mm) (MM_todo Mm) (MM_nodes Mm) (MM_sets Mm) (MM_ranges Mm) (MM_steps Mm) (MM_pat Mm) (MM_patEnd Mm) (MM_round Mm) (MM_many1 Mm) (MM_broken Mm) (MM_keys Mm) (MM_types Mm) (MM_checked Mm) (MM_faultKind Mm) (MM_faultValue Mm) (MM_latestFault Mm) (MM_anchors Mm) (MM_key Mm) (MM_target Mm) (MM_anchorValue Mm) (MM_anchorSchema Mm) (MM_path Mm) (MM_route Mm) (MM_isSchema Mm) (MM_seen1 Mm) (MM_pathSize Mm) (MM_octetRow Mm) (MM_partRow Mm) (MM_pairValue Mm) (MM_pairKey Mm) (MM_pairs Mm) (MM_judged Mm) (MM_deepest Mm) (MM_depth Mm) (MM_over Mm) (MM_seen Mm))
def m_MM_fault_1 (Mm : SMM) : Option (Int32 × SMM) :=
  some ((MM_latestFault Mm), (MM_mk (0:Int32) (MM_fed Mm) (MM_wrong Mm) (MM_octets Mm) (MM_nodeKind Mm) (MM_nodeA Mm) (MM_nodeB Mm) (MM_nodeC Mm) (MM_nodeNext Mm) (MM_low Mm) (MM_high Mm) (MM_setFrom Mm) (MM_setTo Mm) (MM_setNot Mm) (MM_op Mm) (MM_opA Mm) (MM_opB Mm) (MM_mark Mm) (MM_now Mm) (MM_then Mm) (MM_todo Mm) (MM_nodes Mm) (MM_sets Mm) (MM_ranges Mm) (MM_steps Mm) (MM_pat Mm) (MM_patEnd Mm) (MM_round Mm) (MM_many1 Mm) (MM_broken Mm) (MM_keys Mm) (MM_types Mm) (MM_checked Mm) (MM_faultKind Mm) (MM_faultValue Mm) (MM_latestFault Mm) (MM_anchors Mm) (MM_key Mm) (MM_target Mm) (MM_anchorValue Mm) (MM_anchorSchema Mm) (MM_path Mm) (MM_route Mm) (MM_isSchema Mm) (MM_seen1 Mm) (MM_pathSize Mm) (MM_octetRow Mm) (MM_partRow Mm) (MM_pairValue Mm) (MM_pairKey Mm) (MM_pairs Mm) (MM_judged Mm) (MM_deepest Mm) (MM_depth Mm) (MM_over Mm) (MM_seen Mm)))
def m_MM_validate_j38 (y1 : Int32) (M0 : SMT) (M1 : SMT) (Mm : SMM) : Option (Int32 × SMM) :=
  o_bd (m_MM_fails y1 (1:Int32) Mm) fun q1 =>
  if q1.1 = 0 then
    none
  else
    some ((0:Int32), q1.2)
def m_MM_validate (M0 : SMT) (M1 : SMT) (Mm : SMM) : Option (Int32 × SMM) :=
  if (MT_values M1) = 0 then
    m_MM_validate_j38 (1:Int32) M0 M1 (MM_mk (0:Int32) (MM_fed Mm) (MM_wrong Mm) (MM_octets Mm) (MM_nodeKind Mm) (MM_nodeA Mm) (MM_nodeB Mm) (MM_nodeC Mm) (MM_nodeNext Mm) (MM_low Mm) (MM_high Mm) (MM_setFrom Mm) (MM_setTo Mm) (MM_setNot Mm) (MM_op Mm) (MM_opA Mm) (MM_opB Mm) (MM_mark Mm) (MM_now Mm) (MM_then Mm) (MM_todo Mm) (MM_nodes Mm) (MM_sets Mm) (MM_ranges Mm) (MM_steps Mm) (MM_pat Mm) (MM_patEnd Mm) (MM_round Mm) (MM_many1 Mm) (MM_broken Mm) (MM_keys Mm) (MM_types Mm) (MM_checked Mm) (MM_faultKind Mm) (MM_faultValue Mm) (MM_latestFault Mm) (MM_anchors Mm) (MM_key Mm) (MM_target Mm) (MM_anchorValue Mm) (MM_anchorSchema Mm) (MM_path Mm) (MM_route Mm) (MM_isSchema Mm) (MM_seen1 Mm) (MM_pathSize Mm) (MM_octetRow Mm) (MM_partRow Mm) (MM_pairValue Mm) (MM_pairKey Mm) (MM_pairs Mm) (MM_judged Mm) (MM_deepest Mm) (MM_depth Mm) (MM_over Mm) (MM_seen Mm))
  else
    if (MT_values M0) = 0 then
      m_MM_validate_j38 (1:Int32) M0 M1 (MM_mk (0:Int32) (MM_fed Mm) (MM_wrong Mm) (MM_octets Mm) (MM_nodeKind Mm) (MM_nodeA Mm) (MM_nodeB Mm) (MM_nodeC Mm) (MM_nodeNext Mm) (MM_low Mm) (MM_high Mm) (MM_setFrom Mm) (MM_setTo Mm) (MM_setNot Mm) (MM_op Mm) (MM_opA Mm) (MM_opB Mm) (MM_mark Mm) (MM_now Mm) (MM_then Mm) (MM_todo Mm) (MM_nodes Mm) (MM_sets Mm) (MM_ranges Mm) (MM_steps Mm) (MM_pat Mm) (MM_patEnd Mm) (MM_round Mm) (MM_many1 Mm) (MM_broken Mm) (MM_keys Mm) (MM_types Mm) (MM_checked Mm) (MM_faultKind Mm) (MM_faultValue Mm) (MM_latestFault Mm) (MM_anchors Mm) (MM_key Mm) (MM_target Mm) (MM_anchorValue Mm) (MM_anchorSchema Mm) (MM_path Mm) (MM_route Mm) (MM_isSchema Mm) (MM_seen1 Mm) (MM_pathSize Mm) (MM_octetRow Mm) (MM_partRow Mm) (MM_pairValue Mm) (MM_pairKey Mm) (MM_pairs Mm) (MM_judged Mm) (MM_deepest Mm) (MM_depth Mm) (MM_over Mm) (MM_seen Mm))
    else
      if (MM_checked Mm) = 0 then
        m_MM_validate_j38 (1:Int32) M0 M1 (MM_mk (0:Int32) (MM_fed Mm) (MM_wrong Mm) (MM_octets Mm) (MM_nodeKind Mm) (MM_nodeA Mm) (MM_nodeB Mm) (MM_nodeC Mm) (MM_nodeNext Mm) (MM_low Mm) (MM_high Mm) (MM_setFrom Mm) (MM_setTo Mm) (MM_setNot Mm) (MM_op Mm) (MM_opA Mm) (MM_opB Mm) (MM_mark Mm) (MM_now Mm) (MM_then Mm) (MM_todo Mm) (MM_nodes Mm) (MM_sets Mm) (MM_ranges Mm) (MM_steps Mm) (MM_pat Mm) (MM_patEnd Mm) (MM_round Mm) (MM_many1 Mm) (MM_broken Mm) (MM_keys Mm) (MM_types Mm) (MM_checked Mm) (MM_faultKind Mm) (MM_faultValue Mm) (MM_latestFault Mm) (MM_anchors Mm) (MM_key Mm) (MM_target Mm) (MM_anchorValue Mm) (MM_anchorSchema Mm) (MM_path Mm) (MM_route Mm) (MM_isSchema Mm) (MM_seen1 Mm) (MM_pathSize Mm) (MM_octetRow Mm) (MM_partRow Mm) (MM_pairValue Mm) (MM_pairKey Mm) (MM_pairs Mm) (MM_judged Mm) (MM_deepest Mm) (MM_depth Mm) (MM_over Mm) (MM_seen Mm))
      else
        m_MM_validate_j38 (0:Int32) M0 M1 (MM_mk (0:Int32) (MM_fed Mm) (MM_wrong Mm) (MM_octets Mm) (MM_nodeKind Mm) (MM_nodeA Mm) (MM_nodeB Mm) (MM_nodeC Mm) (MM_nodeNext Mm) (MM_low Mm) (MM_high Mm) (MM_setFrom Mm) (MM_setTo Mm) (MM_setNot Mm) (MM_op Mm) (MM_opA Mm) (MM_opB Mm) (MM_mark Mm) (MM_now Mm) (MM_then Mm) (MM_todo Mm) (MM_nodes Mm) (MM_sets Mm) (MM_ranges Mm) (MM_steps Mm) (MM_pat Mm) (MM_patEnd Mm) (MM_round Mm) (MM_many1 Mm) (MM_broken Mm) (MM_keys Mm) (MM_types Mm) (MM_checked Mm) (MM_faultKind Mm) (MM_faultValue Mm) (MM_latestFault Mm) (MM_anchors Mm) (MM_key Mm) (MM_target Mm) (MM_anchorValue Mm) (MM_anchorSchema Mm) (MM_path Mm) (MM_route Mm) (MM_isSchema Mm) (MM_seen1 Mm) (MM_pathSize Mm) (MM_octetRow Mm) (MM_partRow Mm) (MM_pairValue Mm) (MM_pairKey Mm) (MM_pairs Mm) (MM_judged Mm) (MM_deepest Mm) (MM_depth Mm) (MM_over Mm) (MM_seen Mm))
def m_MM_pairs (Mm : SMM) : Option (Int32 × SMM) :=
  some ((MM_pairs Mm), (MM_mk (0:Int32) (MM_fed Mm) (MM_wrong Mm) (MM_octets Mm) (MM_nodeKind Mm) (MM_nodeA Mm) (MM_nodeB Mm) (MM_nodeC Mm) (MM_nodeNext Mm) (MM_low Mm) (MM_high Mm) (MM_setFrom Mm) (MM_setTo Mm) (MM_setNot Mm) (MM_op Mm) (MM_opA Mm) (MM_opB Mm) (MM_mark Mm) (MM_now Mm) (MM_then Mm) (MM_todo Mm) (MM_nodes Mm) (MM_sets Mm) (MM_ranges Mm) (MM_steps Mm) (MM_pat Mm) (MM_patEnd Mm) (MM_round Mm) (MM_many1 Mm) (MM_broken Mm) (MM_keys Mm) (MM_types Mm) (MM_checked Mm) (MM_faultKind Mm) (MM_faultValue Mm) (MM_latestFault Mm) (MM_anchors Mm) (MM_key Mm) (MM_target Mm) (MM_anchorValue Mm) (MM_anchorSchema Mm) (MM_path Mm) (MM_route Mm) (MM_isSchema Mm) (MM_seen1 Mm) (MM_pathSize Mm) (MM_octetRow Mm) (MM_partRow Mm) (MM_pairValue Mm) (MM_pairKey Mm) (MM_pairs Mm) (MM_judged Mm) (MM_deepest Mm) (MM_depth Mm) (MM_over Mm) (MM_seen Mm)))
def m_MM_pair_1_j25 (x1 : Int32) (x2 : Int32) (y1 : Int32) (Mm : SMM) : Option (Int32 × SMM) :=
  o_bd (m_MM_fails y1 (1:Int32) Mm) fun q2 =>
  if q2.1 = 0 then
    if x2 = 0 then
      o_gd (o_in x1 300) <|
      some (((MM_pairValue q2.2) x1.toNatClampNeg), q2.2)
    else
      o_gd (o_in x1 300) <|
      some (((MM_pairKey q2.2) x1.toNatClampNeg), q2.2)
  else
    some ((0:Int32), q2.2)
def m_MM_pair_1 (x1 : Int32) (x2 : Int32) (Mm : SMM) : Option (Int32 × SMM) :=
  o_bd (m_MM_in x1 (0:Int32) ((MM_pairs Mm) - (1:Int32))) fun q1 =>
  if q1 = 0 then
    m_MM_pair_1_j25 x1 x2 (1:Int32) (MM_mk (0:Int32) (MM_fed Mm) (MM_wrong Mm) (MM_octets Mm) (MM_nodeKind Mm) (MM_nodeA Mm) (MM_nodeB Mm) (MM_nodeC Mm) (MM_nodeNext Mm) (MM_low Mm) (MM_high Mm) (MM_setFrom Mm) (MM_setTo Mm) (MM_setNot Mm) (MM_op Mm) (MM_opA Mm) (MM_opB Mm) (MM_mark Mm) (MM_now Mm) (MM_then Mm) (MM_todo Mm) (MM_nodes Mm) (MM_sets Mm) (MM_ranges Mm) (MM_steps Mm) (MM_pat Mm) (MM_patEnd Mm) (MM_round Mm) (MM_many1 Mm) (MM_broken Mm) (MM_keys Mm) (MM_types Mm) (MM_checked Mm) (MM_faultKind Mm) (MM_faultValue Mm) (MM_latestFault Mm) (MM_anchors Mm) (MM_key Mm) (MM_target Mm) (MM_anchorValue Mm) (MM_anchorSchema Mm) (MM_path Mm) (MM_route Mm) (MM_isSchema Mm) (MM_seen1 Mm) (MM_pathSize Mm) (MM_octetRow Mm) (MM_partRow Mm) (MM_pairValue Mm) (MM_pairKey Mm) (MM_pairs Mm) (MM_judged Mm) (MM_deepest Mm) (MM_depth Mm) (MM_over Mm) (MM_seen Mm))
  else
    m_MM_pair_1_j25 x1 x2 (0:Int32) (MM_mk (0:Int32) (MM_fed Mm) (MM_wrong Mm) (MM_octets Mm) (MM_nodeKind Mm) (MM_nodeA Mm) (MM_nodeB Mm) (MM_nodeC Mm) (MM_nodeNext Mm) (MM_low Mm) (MM_high Mm) (MM_setFrom Mm) (MM_setTo Mm) (MM_setNot Mm) (MM_op Mm) (MM_opA Mm) (MM_opB Mm) (MM_mark Mm) (MM_now Mm) (MM_then Mm) (MM_todo Mm) (MM_nodes Mm) (MM_sets Mm) (MM_ranges Mm) (MM_steps Mm) (MM_pat Mm) (MM_patEnd Mm) (MM_round Mm) (MM_many1 Mm) (MM_broken Mm) (MM_keys Mm) (MM_types Mm) (MM_checked Mm) (MM_faultKind Mm) (MM_faultValue Mm) (MM_latestFault Mm) (MM_anchors Mm) (MM_key Mm) (MM_target Mm) (MM_anchorValue Mm) (MM_anchorSchema Mm) (MM_path Mm) (MM_route Mm) (MM_isSchema Mm) (MM_seen1 Mm) (MM_pathSize Mm) (MM_octetRow Mm) (MM_partRow Mm) (MM_pairValue Mm) (MM_pairKey Mm) (MM_pairs Mm) (MM_judged Mm) (MM_deepest Mm) (MM_depth Mm) (MM_over Mm) (MM_seen Mm))
def m_MM_value_j65 (x2 : Int32) (x3 : Int32) (y1 : Int32) (M0 : SMT) (M1 : SMT) (Mm : SMM) : Option (Int32 × SMM) :=
  o_bd (m_MM_fails y1 (2:Int32) Mm) fun q4 =>
  if q4.1 = 0 then
    if x3 = 0 then
      o_gd (o_in x2 1000) <|
      some (((MT_kind M1) x2.toNatClampNeg), q4.2)
    else
      if x3 = (1:Int32) then
        o_gd (o_in x2 1000) <|
        some (((MT_place M1) x2.toNatClampNeg), q4.2)
      else
        if x3 = (2:Int32) then
          o_gd (o_in x2 1000) <|
          some (((MT_many M1) x2.toNatClampNeg), q4.2)
        else
          if x3 = (3:Int32) then
            o_gd (o_in x2 1000) <|
            some (((MT_parent M1) x2.toNatClampNeg), q4.2)
          else
            o_gd (o_in x2 1000) <|
            some (((MT_power M1) x2.toNatClampNeg), q4.2)
  else
    some ((0:Int32), q4.2)
def m_MM_value_j37 (x2 : Int32) (x3 : Int32) (y1 : Int32) (M0 : SMT) (M1 : SMT) (Mm : SMM) : Option (Int32 × SMM) :=
  o_bd (m_MM_fails y1 (1:Int32) Mm) fun q2 =>
  if q2.1 = 0 then
    o_bd (m_MM_in x2 (0:Int32) ((MT_values M1) - (1:Int32))) fun q3 =>
    if q3 = 0 then
      m_MM_value_j65 x2 x3 (1:Int32) M0 M1 q2.2
    else
      m_MM_value_j65 x2 x3 (0:Int32) M0 M1 q2.2
  else
    some ((0:Int32), q2.2)
def m_MM_value_j20 (x2 : Int32) (x3 : Int32) (M0 : SMT) (M1 : SMT) (Mm : SMM) : Option (Int32 × SMM) :=
  o_bd (m_MM_in x3 (0:Int32) (4:Int32)) fun q1 =>
  if q1 = 0 then
    m_MM_value_j37 x2 x3 (1:Int32) M0 M1 Mm
  else
    m_MM_value_j37 x2 x3 (0:Int32) M0 M1 Mm
def m_MM_value_j65v10 (x2 : Int32) (x3 : Int32) (y1 : Int32) (M0 : SMT) (M1 : SMT) (Mm : SMM) : Option (Int32 × SMM) :=
  o_bd (m_MM_fails y1 (2:Int32) Mm) fun q11 =>
  if q11.1 = 0 then
    if x3 = 0 then
      o_gd (o_in x2 1000) <|
      some (((MT_kind M0) x2.toNatClampNeg), q11.2)
    else
      if x3 = (1:Int32) then
        o_gd (o_in x2 1000) <|
        some (((MT_place M0) x2.toNatClampNeg), q11.2)
      else
        if x3 = (2:Int32) then
          o_gd (o_in x2 1000) <|
          some (((MT_many M0) x2.toNatClampNeg), q11.2)
        else
          if x3 = (3:Int32) then
            o_gd (o_in x2 1000) <|
            some (((MT_parent M0) x2.toNatClampNeg), q11.2)
          else
            o_gd (o_in x2 1000) <|
            some (((MT_power M0) x2.toNatClampNeg), q11.2)
  else
    some ((0:Int32), q11.2)
def m_MM_value_j37v7 (x2 : Int32) (x3 : Int32) (y1 : Int32) (M0 : SMT) (M1 : SMT) (Mm : SMM) : Option (Int32 × SMM) :=
  o_bd (m_MM_fails y1 (1:Int32) Mm) fun q8 =>
  if q8.1 = 0 then
    o_bd (m_MM_in x2 (0:Int32) ((MT_values M0) - (1:Int32))) fun q9 =>
    if q9 = 0 then
      m_MM_value_j65v10 x2 x3 (1:Int32) M0 M1 q8.2
    else
      m_MM_value_j65v10 x2 x3 (0:Int32) M0 M1 q8.2
  else
    some ((0:Int32), q8.2)
def m_MM_value_j20v5 (x2 : Int32) (x3 : Int32) (M0 : SMT) (M1 : SMT) (Mm : SMM) : Option (Int32 × SMM) :=
  o_bd (m_MM_in x3 (0:Int32) (4:Int32)) fun q6 =>
  if q6 = 0 then
    m_MM_value_j37v7 x2 x3 (1:Int32) M0 M1 Mm
  else
    m_MM_value_j37v7 x2 x3 (0:Int32) M0 M1 Mm
def m_MM_value (x1 : Int32) (x2 : Int32) (x3 : Int32) (M0 : SMT) (M1 : SMT) (Mm : SMM) : Option (Int32 × SMM) :=
  if x1 = 0 then
    m_MM_value_j20 x2 x3 M0 M1 (MM_mk (0:Int32) (MM_fed Mm) (MM_wrong Mm) (MM_octets Mm) (MM_nodeKind Mm) (MM_nodeA Mm) (MM_nodeB Mm) (MM_nodeC Mm) (MM_nodeNext Mm) (MM_low Mm) (MM_high Mm) (MM_setFrom Mm) (MM_setTo Mm) (MM_setNot Mm) (MM_op Mm) (MM_opA Mm) (MM_opB Mm) (MM_mark Mm) (MM_now Mm) (MM_then Mm) (MM_todo Mm) (MM_nodes Mm) (MM_sets Mm) (MM_ranges Mm) (MM_steps Mm) (MM_pat Mm) (MM_patEnd Mm) (MM_round Mm) (MM_many1 Mm) (MM_broken Mm) (MM_keys Mm) (MM_types Mm) (MM_checked Mm) (MM_faultKind Mm) (MM_faultValue Mm) (MM_latestFault Mm) (MM_anchors Mm) (MM_key Mm) (MM_target Mm) (MM_anchorValue Mm) (MM_anchorSchema Mm) (MM_path Mm) (MM_route Mm) (MM_isSchema Mm) (MM_seen1 Mm) (MM_pathSize Mm) (MM_octetRow Mm) (MM_partRow Mm) (MM_pairValue Mm) (MM_pairKey Mm) (MM_pairs Mm) (MM_judged Mm) (MM_deepest Mm) (MM_depth Mm) (MM_over Mm) (MM_seen Mm))
  else
    m_MM_value_j20v5 x2 x3 M0 M1 (MM_mk (0:Int32) (MM_fed Mm) (MM_wrong Mm) (MM_octets Mm) (MM_nodeKind Mm) (MM_nodeA Mm) (MM_nodeB Mm) (MM_nodeC Mm) (MM_nodeNext Mm) (MM_low Mm) (MM_high Mm) (MM_setFrom Mm) (MM_setTo Mm) (MM_setNot Mm) (MM_op Mm) (MM_opA Mm) (MM_opB Mm) (MM_mark Mm) (MM_now Mm) (MM_then Mm) (MM_todo Mm) (MM_nodes Mm) (MM_sets Mm) (MM_ranges Mm) (MM_steps Mm) (MM_pat Mm) (MM_patEnd Mm) (MM_round Mm) (MM_many1 Mm) (MM_broken Mm) (MM_keys Mm) (MM_types Mm) (MM_checked Mm) (MM_faultKind Mm) (MM_faultValue Mm) (MM_latestFault Mm) (MM_anchors Mm) (MM_key Mm) (MM_target Mm) (MM_anchorValue Mm) (MM_anchorSchema Mm) (MM_path Mm) (MM_route Mm) (MM_isSchema Mm) (MM_seen1 Mm) (MM_pathSize Mm) (MM_octetRow Mm) (MM_partRow Mm) (MM_pairValue Mm) (MM_pairKey Mm) (MM_pairs Mm) (MM_judged Mm) (MM_deepest Mm) (MM_depth Mm) (MM_over Mm) (MM_seen Mm))
def m_MM_alike_j45 (x1 : Int32) (x2 : Int32) (y1 : Int32) (M1 : SMT) (Mm : SMM) : Option (Int32 × SMM) :=
  o_bd (m_MM_fails y1 (1:Int32) Mm) fun q2 =>
  if q2.1 = 0 then
    none
  else
    some ((0:Int32), q2.2)
def m_MM_alike (x1 : Int32) (x2 : Int32) (M1 : SMT) (Mm : SMM) : Option (Int32 × SMM) :=
  o_bd (m_MM_in x1 (0:Int32) ((MT_values M1) - (1:Int32))) fun q1 =>
  if q1 = 0 then
    m_MM_alike_j45 x1 x2 (1:Int32) M1 (MM_mk (0:Int32) (MM_fed Mm) (MM_wrong Mm) (MM_octets Mm) (MM_nodeKind Mm) (MM_nodeA Mm) (MM_nodeB Mm) (MM_nodeC Mm) (MM_nodeNext Mm) (MM_low Mm) (MM_high Mm) (MM_setFrom Mm) (MM_setTo Mm) (MM_setNot Mm) (MM_op Mm) (MM_opA Mm) (MM_opB Mm) (MM_mark Mm) (MM_now Mm) (MM_then Mm) (MM_todo Mm) (MM_nodes Mm) (MM_sets Mm) (MM_ranges Mm) (MM_steps Mm) (MM_pat Mm) (MM_patEnd Mm) (MM_round Mm) (MM_many1 Mm) (MM_broken Mm) (MM_keys Mm) (MM_types Mm) (MM_checked Mm) (MM_faultKind Mm) (MM_faultValue Mm) (MM_latestFault Mm) (MM_anchors Mm) (MM_key Mm) (MM_target Mm) (MM_anchorValue Mm) (MM_anchorSchema Mm) (MM_path Mm) (MM_route Mm) (MM_isSchema Mm) (MM_seen1 Mm) (MM_pathSize Mm) (MM_octetRow Mm) (MM_partRow Mm) (MM_pairValue Mm) (MM_pairKey Mm) (MM_pairs Mm) (MM_judged Mm) (MM_deepest Mm) (MM_depth Mm) (MM_over Mm) (MM_seen Mm))
  else
    o_bd (m_MM_in x2 (0:Int32) ((MT_values M1) - (1:Int32))) fun q3 =>
    if q3 = 0 then
      m_MM_alike_j45 x1 x2 (1:Int32) M1 (MM_mk (0:Int32) (MM_fed Mm) (MM_wrong Mm) (MM_octets Mm) (MM_nodeKind Mm) (MM_nodeA Mm) (MM_nodeB Mm) (MM_nodeC Mm) (MM_nodeNext Mm) (MM_low Mm) (MM_high Mm) (MM_setFrom Mm) (MM_setTo Mm) (MM_setNot Mm) (MM_op Mm) (MM_opA Mm) (MM_opB Mm) (MM_mark Mm) (MM_now Mm) (MM_then Mm) (MM_todo Mm) (MM_nodes Mm) (MM_sets Mm) (MM_ranges Mm) (MM_steps Mm) (MM_pat Mm) (MM_patEnd Mm) (MM_round Mm) (MM_many1 Mm) (MM_broken Mm) (MM_keys Mm) (MM_types Mm) (MM_checked Mm) (MM_faultKind Mm) (MM_faultValue Mm) (MM_latestFault Mm) (MM_anchors Mm) (MM_key Mm) (MM_target Mm) (MM_anchorValue Mm) (MM_anchorSchema Mm) (MM_path Mm) (MM_route Mm) (MM_isSchema Mm) (MM_seen1 Mm) (MM_pathSize Mm) (MM_octetRow Mm) (MM_partRow Mm) (MM_pairValue Mm) (MM_pairKey Mm) (MM_pairs Mm) (MM_judged Mm) (MM_deepest Mm) (MM_depth Mm) (MM_over Mm) (MM_seen Mm))
    else
      m_MM_alike_j45 x1 x2 (0:Int32) M1 (MM_mk (0:Int32) (MM_fed Mm) (MM_wrong Mm) (MM_octets Mm) (MM_nodeKind Mm) (MM_nodeA Mm) (MM_nodeB Mm) (MM_nodeC Mm) (MM_nodeNext Mm) (MM_low Mm) (MM_high Mm) (MM_setFrom Mm) (MM_setTo Mm) (MM_setNot Mm) (MM_op Mm) (MM_opA Mm) (MM_opB Mm) (MM_mark Mm) (MM_now Mm) (MM_then Mm) (MM_todo Mm) (MM_nodes Mm) (MM_sets Mm) (MM_ranges Mm) (MM_steps Mm) (MM_pat Mm) (MM_patEnd Mm) (MM_round Mm) (MM_many1 Mm) (MM_broken Mm) (MM_keys Mm) (MM_types Mm) (MM_checked Mm) (MM_faultKind Mm) (MM_faultValue Mm) (MM_latestFault Mm) (MM_anchors Mm) (MM_key Mm) (MM_target Mm) (MM_anchorValue Mm) (MM_anchorSchema Mm) (MM_path Mm) (MM_route Mm) (MM_isSchema Mm) (MM_seen1 Mm) (MM_pathSize Mm) (MM_octetRow Mm) (MM_partRow Mm) (MM_pairValue Mm) (MM_pairKey Mm) (MM_pairs Mm) (MM_judged Mm) (MM_deepest Mm) (MM_depth Mm) (MM_over Mm) (MM_seen Mm))
def m_MM_matches_1_j96 (x1 : Int32) (y1 : Int32) (M1 : SMT) (Mm : SMM) : Option (Int32 × SMM) :=
  o_bd (m_MM_fails y1 (2:Int32) Mm) fun q3 =>
  if q3.1 = 0 then
    none
  else
    some ((0:Int32), q3.2)
def m_MM_matches_1_j45 (x1 : Int32) (x2 : Int32) (y1 : Int32) (M1 : SMT) (Mm : SMM) : Option (Int32 × SMM) :=
  o_bd (m_MM_fails y1 (1:Int32) Mm) fun q2 =>
  if q2.1 = 0 then
    o_gd (o_in x1 1000) <|
    if ((MT_kind M1) x1.toNatClampNeg) = (4:Int32) then
      o_gd (o_in x2 1000) <|
      if ((MT_kind M1) x2.toNatClampNeg) = (4:Int32) then
        none
      else
        m_MM_matches_1_j96 x1 (1:Int32) M1 q2.2
    else
      m_MM_matches_1_j96 x1 (1:Int32) M1 q2.2
  else
    some ((0:Int32), q2.2)
def m_MM_matches_1 (x1 : Int32) (x2 : Int32) (M1 : SMT) (Mm : SMM) : Option (Int32 × SMM) :=
  o_bd (m_MM_in x1 (0:Int32) ((MT_values M1) - (1:Int32))) fun q1 =>
  if q1 = 0 then
    m_MM_matches_1_j45 x1 x2 (1:Int32) M1 (MM_mk (0:Int32) (MM_fed Mm) (MM_wrong Mm) (MM_octets Mm) (MM_nodeKind Mm) (MM_nodeA Mm) (MM_nodeB Mm) (MM_nodeC Mm) (MM_nodeNext Mm) (MM_low Mm) (MM_high Mm) (MM_setFrom Mm) (MM_setTo Mm) (MM_setNot Mm) (MM_op Mm) (MM_opA Mm) (MM_opB Mm) (MM_mark Mm) (MM_now Mm) (MM_then Mm) (MM_todo Mm) (MM_nodes Mm) (MM_sets Mm) (MM_ranges Mm) (MM_steps Mm) (MM_pat Mm) (MM_patEnd Mm) (MM_round Mm) (MM_many1 Mm) (MM_broken Mm) (MM_keys Mm) (MM_types Mm) (MM_checked Mm) (MM_faultKind Mm) (MM_faultValue Mm) (MM_latestFault Mm) (MM_anchors Mm) (MM_key Mm) (MM_target Mm) (MM_anchorValue Mm) (MM_anchorSchema Mm) (MM_path Mm) (MM_route Mm) (MM_isSchema Mm) (MM_seen1 Mm) (MM_pathSize Mm) (MM_octetRow Mm) (MM_partRow Mm) (MM_pairValue Mm) (MM_pairKey Mm) (MM_pairs Mm) (MM_judged Mm) (MM_deepest Mm) (MM_depth Mm) (MM_over Mm) (MM_seen Mm))
  else
    o_bd (m_MM_in x2 (0:Int32) ((MT_values M1) - (1:Int32))) fun q4 =>
    if q4 = 0 then
      m_MM_matches_1_j45 x1 x2 (1:Int32) M1 (MM_mk (0:Int32) (MM_fed Mm) (MM_wrong Mm) (MM_octets Mm) (MM_nodeKind Mm) (MM_nodeA Mm) (MM_nodeB Mm) (MM_nodeC Mm) (MM_nodeNext Mm) (MM_low Mm) (MM_high Mm) (MM_setFrom Mm) (MM_setTo Mm) (MM_setNot Mm) (MM_op Mm) (MM_opA Mm) (MM_opB Mm) (MM_mark Mm) (MM_now Mm) (MM_then Mm) (MM_todo Mm) (MM_nodes Mm) (MM_sets Mm) (MM_ranges Mm) (MM_steps Mm) (MM_pat Mm) (MM_patEnd Mm) (MM_round Mm) (MM_many1 Mm) (MM_broken Mm) (MM_keys Mm) (MM_types Mm) (MM_checked Mm) (MM_faultKind Mm) (MM_faultValue Mm) (MM_latestFault Mm) (MM_anchors Mm) (MM_key Mm) (MM_target Mm) (MM_anchorValue Mm) (MM_anchorSchema Mm) (MM_path Mm) (MM_route Mm) (MM_isSchema Mm) (MM_seen1 Mm) (MM_pathSize Mm) (MM_octetRow Mm) (MM_partRow Mm) (MM_pairValue Mm) (MM_pairKey Mm) (MM_pairs Mm) (MM_judged Mm) (MM_deepest Mm) (MM_depth Mm) (MM_over Mm) (MM_seen Mm))
    else
      m_MM_matches_1_j45 x1 x2 (0:Int32) M1 (MM_mk (0:Int32) (MM_fed Mm) (MM_wrong Mm) (MM_octets Mm) (MM_nodeKind Mm) (MM_nodeA Mm) (MM_nodeB Mm) (MM_nodeC Mm) (MM_nodeNext Mm) (MM_low Mm) (MM_high Mm) (MM_setFrom Mm) (MM_setTo Mm) (MM_setNot Mm) (MM_op Mm) (MM_opA Mm) (MM_opB Mm) (MM_mark Mm) (MM_now Mm) (MM_then Mm) (MM_todo Mm) (MM_nodes Mm) (MM_sets Mm) (MM_ranges Mm) (MM_steps Mm) (MM_pat Mm) (MM_patEnd Mm) (MM_round Mm) (MM_many1 Mm) (MM_broken Mm) (MM_keys Mm) (MM_types Mm) (MM_checked Mm) (MM_faultKind Mm) (MM_faultValue Mm) (MM_latestFault Mm) (MM_anchors Mm) (MM_key Mm) (MM_target Mm) (MM_anchorValue Mm) (MM_anchorSchema Mm) (MM_path Mm) (MM_route Mm) (MM_isSchema Mm) (MM_seen1 Mm) (MM_pathSize Mm) (MM_octetRow Mm) (MM_partRow Mm) (MM_pairValue Mm) (MM_pairKey Mm) (MM_pairs Mm) (MM_judged Mm) (MM_deepest Mm) (MM_depth Mm) (MM_over Mm) (MM_seen Mm))
def m_MM_count_j20 (x1 : Int32) (y1 : Int32) (M0 : SMT) (M1 : SMT) (Mm : SMM) : Option (Int32 × SMM) :=
  o_bd (m_MM_fails y1 (1:Int32) Mm) fun q2 =>
  if q2.1 = 0 then
    if x1 = 0 then
      some ((MT_values M0), q2.2)
    else
      if x1 = (1:Int32) then
        some ((MT_values M1), q2.2)
      else
        if x1 = (2:Int32) then
          some ((MM_judged q2.2), q2.2)
        else
          some ((MM_deepest q2.2), q2.2)
  else
    some ((0:Int32), q2.2)
def m_MM_count (x1 : Int32) (M0 : SMT) (M1 : SMT) (Mm : SMM) : Option (Int32 × SMM) :=
  o_bd (m_MM_in x1 (0:Int32) (3:Int32)) fun q1 =>
  if q1 = 0 then
    m_MM_count_j20 x1 (1:Int32) M0 M1 (MM_mk (0:Int32) (MM_fed Mm) (MM_wrong Mm) (MM_octets Mm) (MM_nodeKind Mm) (MM_nodeA Mm) (MM_nodeB Mm) (MM_nodeC Mm) (MM_nodeNext Mm) (MM_low Mm) (MM_high Mm) (MM_setFrom Mm) (MM_setTo Mm) (MM_setNot Mm) (MM_op Mm) (MM_opA Mm) (MM_opB Mm) (MM_mark Mm) (MM_now Mm) (MM_then Mm) (MM_todo Mm) (MM_nodes Mm) (MM_sets Mm) (MM_ranges Mm) (MM_steps Mm) (MM_pat Mm) (MM_patEnd Mm) (MM_round Mm) (MM_many1 Mm) (MM_broken Mm) (MM_keys Mm) (MM_types Mm) (MM_checked Mm) (MM_faultKind Mm) (MM_faultValue Mm) (MM_latestFault Mm) (MM_anchors Mm) (MM_key Mm) (MM_target Mm) (MM_anchorValue Mm) (MM_anchorSchema Mm) (MM_path Mm) (MM_route Mm) (MM_isSchema Mm) (MM_seen1 Mm) (MM_pathSize Mm) (MM_octetRow Mm) (MM_partRow Mm) (MM_pairValue Mm) (MM_pairKey Mm) (MM_pairs Mm) (MM_judged Mm) (MM_deepest Mm) (MM_depth Mm) (MM_over Mm) (MM_seen Mm))
  else
    m_MM_count_j20 x1 (0:Int32) M0 M1 (MM_mk (0:Int32) (MM_fed Mm) (MM_wrong Mm) (MM_octets Mm) (MM_nodeKind Mm) (MM_nodeA Mm) (MM_nodeB Mm) (MM_nodeC Mm) (MM_nodeNext Mm) (MM_low Mm) (MM_high Mm) (MM_setFrom Mm) (MM_setTo Mm) (MM_setNot Mm) (MM_op Mm) (MM_opA Mm) (MM_opB Mm) (MM_mark Mm) (MM_now Mm) (MM_then Mm) (MM_todo Mm) (MM_nodes Mm) (MM_sets Mm) (MM_ranges Mm) (MM_steps Mm) (MM_pat Mm) (MM_patEnd Mm) (MM_round Mm) (MM_many1 Mm) (MM_broken Mm) (MM_keys Mm) (MM_types Mm) (MM_checked Mm) (MM_faultKind Mm) (MM_faultValue Mm) (MM_latestFault Mm) (MM_anchors Mm) (MM_key Mm) (MM_target Mm) (MM_anchorValue Mm) (MM_anchorSchema Mm) (MM_path Mm) (MM_route Mm) (MM_isSchema Mm) (MM_seen1 Mm) (MM_pathSize Mm) (MM_octetRow Mm) (MM_partRow Mm) (MM_pairValue Mm) (MM_pairKey Mm) (MM_pairs Mm) (MM_judged Mm) (MM_deepest Mm) (MM_depth Mm) (MM_over Mm) (MM_seen Mm))
