/-! printed by wip/whole/lift/lift.py: the methods as functions -/
/-! X12_empties -/
def l_X12_empties_2 : Nat → fu_S → Int32 → Int32 → Option (fu_S)
  | 0, _, _, _ => none
  | n + 1, s, x1, x2 =>
    if x2 < (355 : Int32) then
      if am_in (((355 : Int32) * x1) + x2) 1775 = true then
        fu_lt (fu_pi s 122 (Int32.toNatClampNeg (((355 : Int32) * x1) + x2)) (0 : Int32)) fun s2 =>
        l_X12_empties_2 n s2 x1 (x2 + (1 : Int32))
      else none
    else
      some s
def f_X12_empties (s : fu_S) (a1 : Int32) : Option fu_S :=
  Option.bind (l_X12_empties_2 fu_N s a1 (0 : Int32)) fun (r4 : fu_S) =>
  if am_in (((355 : Int32) * a1) + (3 : Int32)) 1775 = true then
    fu_lt (fu_pi r4 122 (Int32.toNatClampNeg (((355 : Int32) * a1) + (3 : Int32))) (4 : Int32)) fun s5 =>
    if am_in (((355 : Int32) * a1) + (4 : Int32)) 1775 = true then
      fu_lt (fu_pi s5 122 (Int32.toNatClampNeg (((355 : Int32) * a1) + (4 : Int32))) (5 : Int32)) fun s7 =>
      some s7
    else none
  else none
/-! X12_status -/
def f_X12_status (s : fu_S) : (Int32 × fu_S) :=
  fu_lt (fu_pi s 117 1 (0 : Int32)) fun s1 =>
  ((s1.1 117 0), s1)
/-! X12_top -/
def f_X12_top (s : fu_S) : (Int64 × fu_S) :=
  fu_lt (fu_pi s 117 1 (0 : Int32)) fun s1 =>
  ((s1.2 117 2), s1)
/-! X12_bottom -/
def f_X12_bottom (s : fu_S) : (Int64 × fu_S) :=
  fu_lt (fu_pi s 117 1 (0 : Int32)) fun s1 =>
  ((s1.2 117 3), s1)
/-! X12_refuse -/
def f_X12_refuse (s : fu_S) (a1 : Int32) : (Int32 × fu_S) :=
  fu_lt (fu_pi s 117 0 a1) fun s1 =>
  ((-1 : Int32), s1)
/-! X12_no -/
def f_X12_no (s : fu_S) (a1 : Int32) : (Bool × fu_S) :=
  fu_lt (fu_pi s 117 0 a1) fun s1 =>
  (false, s1)
/-! X12_isIn -/
def f_X12_isIn (a0 : Int64) (a1 : Int64) (a2 : Int64) : Bool :=
  fu_lt (
    if a0 < a1 then
      false
    else
      if a0 ≤ a2 then
        true
      else
        false
  ) fun (j1 : Bool) =>
  j1
/-! X12_fraction -/
def l_X12_fraction_9 : Nat → fu_S → Int64 → Int64 → Int64 → Int64 → Option (Int64)
  | 0, _, _, _, _, _ => none
  | n + 1, s, x1, x3, x5, x7 =>
    if x7 = (0 : Int64) then
      some x5
    else
      if x7 = 0 then none else
      l_X12_fraction_9 n s x1 x3 x7 (x5 - x5 / x7 * x7)
def f_X12_fraction (s : fu_S) (a1 : Int64) (a2 : Int64) : Option (Bool × fu_S) :=
  Option.bind (l_X12_fraction_9 fu_N s a1 a2 (fu_abl a1) a2) fun (r3 : Int64) =>
  if r3 = 0 then none else
  fu_lt (fu_pl s 117 2 (a1 / r3)) fun s5 =>
  if r3 = 0 then none else
  fu_lt (fu_pl s5 117 3 (a2 / r3)) fun s7 =>
  some (true, s7)
/-! X12_cut -/
def f_X12_cut (a0 : Int32) (a1 : Int64) : Int64 :=
  fu_lt (
    if a0 = 0 then
      (Int32.toInt64 (Int8.toInt32 (Int32.toInt8 (Int64.toInt32 a1))))
    else
      if a0 = (1 : Int32) then
        (Int32.toInt64 (Int16.toInt32 (Int32.toInt16 (Int64.toInt32 a1))))
      else
        if a0 = (2 : Int32) then
          (Int32.toInt64 (Int64.toInt32 a1))
        else
          a1
  ) fun (j1 : Int64) =>
  j1
/-! X12_tray -/
def l_X12_tray_74 : Nat → fu_S → Int32 → Int32 → Int32 → Option (fu_S)
  | 0, _, _, _, _ => none
  | n + 1, s, x1, x3, x4 =>
    if x4 < x3 then
      if am_in (((60 : Int32) * x1) + x4) 240 = true then
        fu_lt (fu_pl s 120 (Int32.toNatClampNeg (((60 : Int32) * x1) + x4)) (0 : Int64)) fun s17 =>
        l_X12_tray_74 n s17 x1 x3 (x4 + (1 : Int32))
      else none
    else
      some s
def f_X12_tray (s : fu_S) (a1 : Int32) (a2 : Int32) (a3 : Int32) : Option (Bool × fu_S) :=
  fu_lt (fu_pi s 117 1 (0 : Int32)) fun s1 =>
  fu_lt (fu_pi s1 117 0 (0 : Int32)) fun s2 =>
  if a1 < 0 then
    fu_lt (f_X12_no s2 (1 : Int32)) fun r4 =>
    some (r4.1, r4.2)
  else
    if a1 < (4 : Int32) then
      if a2 < 0 then
        fu_lt (f_X12_no s2 (1 : Int32)) fun r7 =>
        some (r7.1, r7.2)
      else
        if a2 ≤ (3 : Int32) then
          if a3 ≤ (60 : Int32) then
            if a3 < 0 then
              fu_lt (f_X12_no s2 (6 : Int32)) fun r11 =>
              some (r11.1, r11.2)
            else
              if am_in a1 4 = true then
                fu_lt (fu_pi s2 118 (Int32.toNatClampNeg a1) a2) fun s12 =>
                if am_in a1 4 = true then
                  fu_lt (fu_pi s12 119 (Int32.toNatClampNeg a1) a3) fun s14 =>
                  Option.bind (l_X12_tray_74 fu_N s14 a1 a3 (0 : Int32)) fun (r19 : fu_S) =>
                  some (true, r19)
                else none
              else none
          else
            fu_lt (f_X12_no s2 (5 : Int32)) fun r20 =>
            some (r20.1, r20.2)
        else
          fu_lt (f_X12_no s2 (1 : Int32)) fun r21 =>
          some (r21.1, r21.2)
    else
      fu_lt (f_X12_no s2 (1 : Int32)) fun r22 =>
      some (r22.1, r22.2)
/-! X12_trayed -/
def f_X12_trayed (s : fu_S) (a1 : Int32) : Option Int32 :=
  Option.bind (
    if a1 < 0 then
      some (1 : Int32)
    else
      if a1 < (4 : Int32) then
        if am_in a1 4 = true then
          if (s.1 119 (Int32.toNatClampNeg a1)) < 0 then
            some (3 : Int32)
          else
            some (0 : Int32)
        else none
      else
        some (1 : Int32)
  ) fun (j1 : Int32) =>
  some j1
/-! X12_placed -/
def f_X12_placed (s : fu_S) (a1 : Int32) (a2 : Int32) : Option Int32 :=
  Option.bind (f_X12_trayed s a1) fun r1 =>
  Option.bind (
    if r1 ≤ 0 then
      if a2 < 0 then
        some (4 : Int32)
      else
        if am_in a1 4 = true then
          if a2 < (s.1 119 (Int32.toNatClampNeg a1)) then
            some (0 : Int32)
          else
            some (4 : Int32)
        else none
    else
      some r1
  ) fun (j2 : Int32) =>
  some j2
/-! X12_write -/
def f_X12_write (s : fu_S) (a1 : Int32) (a2 : Int32) (a3 : Int64) : Option (Bool × fu_S) :=
  fu_lt (fu_pi s 117 1 (0 : Int32)) fun s1 =>
  Option.bind (f_X12_placed s1 a1 a2) fun r2 =>
  fu_lt (fu_pi s1 117 0 r2) fun s3 =>
  if (s3.1 117 0) ≤ 0 then
    if am_in a1 4 = true then
      if am_in (((60 : Int32) * a1) + a2) 240 = true then
        fu_lt (fu_pl s3 120 (Int32.toNatClampNeg (((60 : Int32) * a1) + a2)) (f_X12_cut (s3.1 118 (Int32.toNatClampNeg a1)) a3)) fun s6 =>
        some (true, s6)
      else none
    else none
  else
    some (false, s3)
/-! X12_read -/
def f_X12_read (s : fu_S) (a1 : Int32) (a2 : Int32) : Option (Int64 × fu_S) :=
  fu_lt (fu_pi s 117 1 (0 : Int32)) fun s1 =>
  Option.bind (f_X12_placed s1 a1 a2) fun r2 =>
  fu_lt (fu_pi s1 117 0 r2) fun s3 =>
  Option.bind (
    if (s3.1 117 0) ≤ 0 then
      if am_in (((60 : Int32) * a1) + a2) 240 = true then
        some (s3.2 120 (Int32.toNatClampNeg (((60 : Int32) * a1) + a2)))
      else none
    else
      some (-1 : Int64)
  ) fun (j4 : Int64) =>
  some (j4, s3)
/-! X12_pour -/
def l_X12_pour_158 : Nat → fu_S → Int32 → Int32 → Int32 → Int32 → Int32 → Bool → Int32 → Option (fu_S)
  | 0, _, _, _, _, _, _, _, _ => none
  | n + 1, s, x1, x2, x3, x4, x5, x6, x7 =>
    if x7 < x5 then
      Option.bind (
        if x6 = true then
          some ((x5 - (1 : Int32)) - x7)
        else
          some x7
      ) fun (j31 : Int32) =>
      if am_in ((((60 : Int32) * x1) + x2) + j31) 240 = true then
        if am_in ((((60 : Int32) * x3) + x4) + j31) 240 = true then
          fu_lt (fu_pl s 120 (Int32.toNatClampNeg ((((60 : Int32) * x3) + x4) + j31)) (s.2 120 (Int32.toNatClampNeg ((((60 : Int32) * x1) + x2) + j31)))) fun s34 =>
          l_X12_pour_158 n s34 x1 x2 x3 x4 x5 x6 (x7 + (1 : Int32))
        else none
      else none
    else
      some s
def f_X12_pour (s : fu_S) (a1 : Int32) (a2 : Int32) (a3 : Int32) (a4 : Int32) (a5 : Int32) : Option (Bool × fu_S) :=
  fu_lt (fu_pi s 117 1 (0 : Int32)) fun s1 =>
  fu_lt (fu_pi s1 117 0 (0 : Int32)) fun s2 =>
  if a1 < 0 then
    fu_lt (f_X12_no s2 (1 : Int32)) fun r4 =>
    some (r4.1, r4.2)
  else
    if a1 < (4 : Int32) then
      if a3 < 0 then
        fu_lt (f_X12_no s2 (1 : Int32)) fun r7 =>
        some (r7.1, r7.2)
      else
        if a3 < (4 : Int32) then
          if am_in a1 4 = true then
            if (s2.1 119 (Int32.toNatClampNeg a1)) < 0 then
              fu_lt (f_X12_no s2 (3 : Int32)) fun r11 =>
              some (r11.1, r11.2)
            else
              if am_in a3 4 = true then
                if (s2.1 119 (Int32.toNatClampNeg a3)) < 0 then
                  fu_lt (f_X12_no s2 (3 : Int32)) fun r14 =>
                  some (r14.1, r14.2)
                else
                  if am_in a1 4 = true then
                    if am_in a3 4 = true then
                      if (s2.1 118 (Int32.toNatClampNeg a1)) = (s2.1 118 (Int32.toNatClampNeg a3)) then
                        if a5 < 0 then
                          fu_lt (f_X12_no s2 (6 : Int32)) fun r19 =>
                          some (r19.1, r19.2)
                        else
                          if a2 < 0 then
                            fu_lt (f_X12_no s2 (4 : Int32)) fun r21 =>
                            some (r21.1, r21.2)
                          else
                            if a4 < 0 then
                              fu_lt (f_X12_no s2 (4 : Int32)) fun r23 =>
                              some (r23.1, r23.2)
                            else
                              if am_in a1 4 = true then
                                if ((Int32.toInt64 a2) + (Int32.toInt64 a5)) ≤ (Int32.toInt64 (s2.1 119 (Int32.toNatClampNeg a1))) then
                                  if am_in a3 4 = true then
                                    if ((Int32.toInt64 a4) + (Int32.toInt64 a5)) ≤ (Int32.toInt64 (s2.1 119 (Int32.toNatClampNeg a3))) then
                                      Option.bind (
                                        if a2 < a4 then
                                          some true
                                        else
                                          some false
                                      ) fun (j28 : Bool) =>
                                      Option.bind (l_X12_pour_158 fu_N s2 a1 a2 a3 a4 a5 j28 (0 : Int32)) fun (r36 : fu_S) =>
                                      some (true, r36)
                                    else
                                      fu_lt (f_X12_no s2 (4 : Int32)) fun r37 =>
                                      some (r37.1, r37.2)
                                  else none
                                else
                                  fu_lt (f_X12_no s2 (4 : Int32)) fun r38 =>
                                  some (r38.1, r38.2)
                              else none
                      else
                        fu_lt (f_X12_no s2 (11 : Int32)) fun r39 =>
                        some (r39.1, r39.2)
                    else none
                  else none
              else none
          else none
        else
          fu_lt (f_X12_no s2 (1 : Int32)) fun r40 =>
          some (r40.1, r40.2)
    else
      fu_lt (f_X12_no s2 (1 : Int32)) fun r41 =>
      some (r41.1, r41.2)
/-! X12_numberOf -/
def f_X12_numberOf (s : fu_S) (a1 : Int32) (a2 : Int32) : Option Int64 :=
  if am_in (((60 : Int32) * a1) + a2) 240 = true then
    some (s.2 120 (Int32.toNatClampNeg (((60 : Int32) * a1) + a2)))
  else none
/-! X12_isTray -/
def f_X12_isTray (a1 : Int32) : Bool :=
  (f_X12_isIn (Int32.toInt64 a1) (0 : Int64) (3 : Int64))
/-! X12_has -/
def f_X12_has (a0 : Int32) (a1 : Int32) : Bool :=
  fu_lt (
    if ((a0 >>> (a1 &&& 31)) &&& (1 : Int32)) = (1 : Int32) then
      true
    else
      false
  ) fun (j1 : Bool) =>
  j1
/-! X12_sizeOf -/
def l_X12_sizeOf_4 : Nat → Int32 → Int32 → Int32 → Option (Int32)
  | 0, _, _, _ => none
  | n + 1, x0, x1, x2 =>
    if x2 < (10 : Int32) then
      Option.bind (
        if (f_X12_has x0 x2) = true then
          some true
        else
          some false
      ) fun (j2 : Bool) =>
      l_X12_sizeOf_4 n x0 (x1 + (fu_b j2)) (x2 + (1 : Int32))
    else
      some x1
def f_X12_sizeOf (a0 : Int32) : Option Int32 :=
  Option.bind (l_X12_sizeOf_4 fu_N a0 (0 : Int32) (0 : Int32)) fun (r4 : Int32) =>
  some r4
/-! X12_look2 -/
def f_X12_look2 (s : fu_S) (a1 : Int32) : Option Int32 :=
  Option.bind (
    if a1 < (s.1 117 9) then
      if am_in a1 900 = true then
        some ((s.1 121 (Int32.toNatClampNeg a1)) &&& (255 : Int32))
      else none
    else
      some (0 : Int32)
  ) fun (j1 : Int32) =>
  some j1
/-! X12_isLetter -/
def f_X12_isLetter (a0 : Int32) : Bool :=
  fu_lt (
    if a0 < (97 : Int32) then
      false
    else
      if a0 ≤ (122 : Int32) then
        true
      else
        false
  ) fun (j1 : Bool) =>
  j1
/-! X12_isDigit -/
def f_X12_isDigit (a0 : Int32) : Bool :=
  fu_lt (
    if a0 < (48 : Int32) then
      false
    else
      if a0 ≤ (57 : Int32) then
        true
      else
        false
  ) fun (j1 : Bool) =>
  j1
/-! X12_isSignByte -/
def f_X12_isSignByte (a1 : Int32) : Bool :=
  fu_lt (
    if a1 = (59 : Int32) then
      true
    else
      if a1 = (60 : Int32) then
        true
      else
        if a1 = (62 : Int32) then
          true
        else
          if a1 = (61 : Int32) then
            true
          else
            false
  ) fun (j1 : Bool) =>
  j1
/-! X12_advance -/
def l_X12_advance_8 : Nat → fu_S → Option (fu_S)
  | 0, _ => none
  | n + 1, s =>
    if (s.1 117 15) < (s.1 117 9) then
      Option.bind (f_X12_look2 s (s.1 117 15)) fun r3 =>
      if r3 = (10 : Int32) then
        fu_lt (fu_pi s 117 15 ((s.1 117 15) + (1 : Int32))) fun s5 =>
        l_X12_advance_8 n s5
      else
        Option.bind (f_X12_look2 s (s.1 117 15)) fun r6 =>
        if r6 = (32 : Int32) then
          fu_lt (fu_pi s 117 15 ((s.1 117 15) + (1 : Int32))) fun s8 =>
          l_X12_advance_8 n s8
        else
          some s
    else
      some s
def l_X12_advance_109 : Nat → fu_S → Option (fu_S)
  | 0, _ => none
  | n + 1, s =>
    Option.bind (f_X12_look2 s (s.1 117 16)) fun r17 =>
    if (f_X12_isLetter r17) = true then
      Option.bind (
        if ((s.1 117 16) - (s.1 117 15)) < (8 : Int32) then
          Option.bind (f_X12_look2 s (s.1 117 16)) fun r21 =>
          some ((((s.2 117 19) * (32 : Int64)) + (Int32.toInt64 r21)) - (96 : Int64))
        else
          some (-1 : Int64)
      ) fun (j19 : Int64) =>
      fu_lt (fu_pl s 117 19 j19) fun s22 =>
      fu_lt (fu_pi s22 117 16 ((s22.1 117 16) + (1 : Int32))) fun s23 =>
      l_X12_advance_109 n s23
    else
      some s
def l_X12_advance_210 : Nat → fu_S → Option (fu_S)
  | 0, _ => none
  | n + 1, s =>
    Option.bind (f_X12_look2 s (s.1 117 16)) fun r28 =>
    if (f_X12_isDigit r28) = true then
      Option.bind (
        if ((s.1 117 16) - (s.1 117 15)) < (4 : Int32) then
          Option.bind (f_X12_look2 s (s.1 117 16)) fun r32 =>
          fu_lt (fu_pi s 117 17 ((((10 : Int32) * (s.1 117 17)) + r32) - (48 : Int32))) fun s33 =>
          some s33
        else
          some s
      ) fun (j30 : fu_S) =>
      fu_lt (fu_pi j30 117 16 ((j30.1 117 16) + (1 : Int32))) fun s34 =>
      l_X12_advance_210 n s34
    else
      some s
def f_X12_advance (s : fu_S) : Option fu_S :=
  fu_lt (fu_pi s 117 15 (s.1 117 16)) fun s1 =>
  Option.bind (l_X12_advance_8 fu_N s1) fun (r9 : fu_S) =>
  fu_lt (fu_pi r9 117 16 (r9.1 117 15)) fun s10 =>
  if (s10.1 117 15) < (s10.1 117 9) then
    Option.bind (f_X12_look2 s10 (s10.1 117 15)) fun r12 =>
    Option.bind (
      if (f_X12_isLetter r12) = true then
        fu_lt (fu_pi s10 117 14 (1 : Int32)) fun s15 =>
        fu_lt (fu_pl s15 117 19 (0 : Int64)) fun s16 =>
        Option.bind (l_X12_advance_109 fu_N s16) fun (r24 : fu_S) =>
        fu_lt (fu_pi r24 117 18 ((r24.1 117 16) - (r24.1 117 15))) fun s25 =>
        some s25
      else
        if (f_X12_isDigit r12) = true then
          fu_lt (fu_pi s10 117 17 (0 : Int32)) fun s27 =>
          Option.bind (l_X12_advance_210 fu_N s27) fun (r35 : fu_S) =>
          Option.bind (
            if ((r35.1 117 16) - (r35.1 117 15)) ≤ (4 : Int32) then
              some (2 : Int32)
            else
              some (4 : Int32)
          ) fun (j36 : Int32) =>
          fu_lt (fu_pi r35 117 14 j36) fun s38 =>
          some s38
        else
          fu_lt (fu_pi s10 117 16 ((s10.1 117 15) + (1 : Int32))) fun s39 =>
          fu_lt (fu_pi s39 117 17 r12) fun s40 =>
          Option.bind (
            if (f_X12_isSignByte r12) = true then
              some (3 : Int32)
            else
              some (4 : Int32)
          ) fun (j41 : Int32) =>
          fu_lt (fu_pi s40 117 14 j41) fun s43 =>
          some s43
    ) fun (j13 : fu_S) =>
    some j13
  else
    fu_lt (fu_pi s10 117 14 (0 : Int32)) fun s44 =>
    some s44
/-! X12_isSign -/
def f_X12_isSign (s : fu_S) (a1 : Int32) : Bool :=
  fu_lt (
    if (s.1 117 14) = (3 : Int32) then
      if (s.1 117 17) = a1 then
        true
      else
        false
    else
      false
  ) fun (j1 : Bool) =>
  j1
/-! X12_spelled -/
def f_X12_spelled (a0 : Int32) (a1 : Int32) (a2 : Int32) (a3 : Int32) (a4 : Int32) (a5 : Int32) : Int64 :=
  fu_lt (
    if a2 ≤ 0 then
      (((((Int32.toInt64 a0) - (96 : Int64)) * (32 : Int64)) + (Int32.toInt64 a1)) - (96 : Int64))
    else
      ((((((((Int32.toInt64 a0) - (96 : Int64)) * (32 : Int64)) + (Int32.toInt64 a1)) - (96 : Int64)) * (32 : Int64)) + (Int32.toInt64 a2)) - (96 : Int64))
  ) fun (j1 : Int64) =>
  fu_lt (
    if a3 ≤ 0 then
      j1
    else
      (((j1 * (32 : Int64)) + (Int32.toInt64 a3)) - (96 : Int64))
  ) fun (j3 : Int64) =>
  fu_lt (
    if a4 ≤ 0 then
      j3
    else
      (((j3 * (32 : Int64)) + (Int32.toInt64 a4)) - (96 : Int64))
  ) fun (j5 : Int64) =>
  fu_lt (
    if a5 ≤ 0 then
      j5
    else
      (((j5 * (32 : Int64)) + (Int32.toInt64 a5)) - (96 : Int64))
  ) fun (j7 : Int64) =>
  j7
/-! X12_isWord -/
def f_X12_isWord (s : fu_S) (a1 : Int64) : Bool :=
  fu_lt (
    if (s.1 117 14) = (1 : Int32) then
      if (s.2 117 19) = a1 then
        true
      else
        false
    else
      false
  ) fun (j1 : Bool) =>
  j1
/-! X12_isOdds -/
def f_X12_isOdds (s : fu_S) : Bool :=
  (f_X12_isWord s (f_X12_spelled (111 : Int32) (100 : Int32) (100 : Int32) (115 : Int32) (0 : Int32) (0 : Int32)))
/-! X12_isArm -/
def f_X12_isArm (s : fu_S) : Bool :=
  (f_X12_isWord s (f_X12_spelled (97 : Int32) (114 : Int32) (109 : Int32) (0 : Int32) (0 : Int32) (0 : Int32)))
/-! X12_isKindWord -/
def f_X12_isKindWord (s : fu_S) : Bool :=
  (f_X12_isWord s (f_X12_spelled (107 : Int32) (105 : Int32) (110 : Int32) (100 : Int32) (0 : Int32) (0 : Int32)))
/-! X12_isStepWord -/
def f_X12_isStepWord (s : fu_S) : Bool :=
  (f_X12_isWord s (f_X12_spelled (115 : Int32) (116 : Int32) (101 : Int32) (112 : Int32) (0 : Int32) (0 : Int32)))
/-! X12_isSpotWord -/
def f_X12_isSpotWord (s : fu_S) : Bool :=
  (f_X12_isWord s (f_X12_spelled (115 : Int32) (112 : Int32) (111 : Int32) (116 : Int32) (0 : Int32) (0 : Int32)))
/-! X12_isWeight -/
def f_X12_isWeight (s : fu_S) : Bool :=
  (f_X12_isWord s (f_X12_spelled (119 : Int32) (101 : Int32) (105 : Int32) (103 : Int32) (104 : Int32) (116 : Int32)))
/-! X12_isPerson -/
def f_X12_isPerson (s : fu_S) : Bool :=
  (f_X12_isWord s (f_X12_spelled (112 : Int32) (101 : Int32) (114 : Int32) (115 : Int32) (111 : Int32) (110 : Int32)))
/-! X12_isHome -/
def f_X12_isHome (s : fu_S) : Bool :=
  (f_X12_isWord s (f_X12_spelled (104 : Int32) (111 : Int32) (109 : Int32) (101 : Int32) (0 : Int32) (0 : Int32)))
/-! X12_isReach -/
def f_X12_isReach (s : fu_S) : Bool :=
  (f_X12_isWord s (f_X12_spelled (114 : Int32) (101 : Int32) (97 : Int32) (99 : Int32) (104 : Int32) (0 : Int32)))
/-! X12_isThing -/
def f_X12_isThing (s : fu_S) : Bool :=
  (f_X12_isWord s (f_X12_spelled (116 : Int32) (104 : Int32) (105 : Int32) (110 : Int32) (103 : Int32) (0 : Int32)))
/-! X12_isWorth -/
def f_X12_isWorth (s : fu_S) : Bool :=
  (f_X12_isWord s (f_X12_spelled (119 : Int32) (111 : Int32) (114 : Int32) (116 : Int32) (104 : Int32) (0 : Int32)))
/-! X12_stepWord -/
def f_X12_stepWord (s : fu_S) : Int32 :=
  if (f_X12_isWord s (f_X12_spelled (119 : Int32) (97 : Int32) (105 : Int32) (116 : Int32) (0 : Int32) (0 : Int32))) = true then
    (0 : Int32)
  else
    if (f_X12_isWord s (f_X12_spelled (108 : Int32) (111 : Int32) (115 : Int32) (101 : Int32) (0 : Int32) (0 : Int32))) = true then
      (1 : Int32)
    else
      if (f_X12_isWord s ((((f_X12_spelled (115 : Int32) (99 : Int32) (114 : Int32) (97 : Int32) (116 : Int32) (99 : Int32)) * (32 : Int64)) + (104 : Int64)) - (96 : Int64))) = true then
        (2 : Int32)
      else
        if (f_X12_isWord s (f_X12_spelled (97 : Int32) (110 : Int32) (121 : Int32) (0 : Int32) (0 : Int32) (0 : Int32))) = true then
          (3 : Int32)
        else
          if (f_X12_isWord s (f_X12_spelled (119 : Int32) (104 : Int32) (101 : Int32) (110 : Int32) (0 : Int32) (0 : Int32))) = true then
            (4 : Int32)
          else
            if (f_X12_isWord s (f_X12_spelled (108 : Int32) (111 : Int32) (111 : Int32) (112 : Int32) (0 : Int32) (0 : Int32))) = true then
              (5 : Int32)
            else
              fu_lt (
                if (f_X12_isWord s (f_X12_spelled (115 : Int32) (116 : Int32) (111 : Int32) (112 : Int32) (0 : Int32) (0 : Int32))) = true then
                  (6 : Int32)
                else
                  (-1 : Int32)
              ) fun (j7 : Int32) =>
              j7
/-! X12_testWord -/
def f_X12_testWord (s : fu_S) : Int32 :=
  if (f_X12_isWord s (f_X12_spelled (102 : Int32) (111 : Int32) (117 : Int32) (110 : Int32) (100 : Int32) (0 : Int32))) = true then
    (0 : Int32)
  else
    if (f_X12_isWord s (f_X12_spelled (117 : Int32) (112 : Int32) (0 : Int32) (0 : Int32) (0 : Int32) (0 : Int32))) = true then
      (1 : Int32)
    else
      fu_lt (
        if (f_X12_isWord s (f_X12_spelled (109 : Int32) (105 : Int32) (110 : Int32) (117 : Int32) (116 : Int32) (101 : Int32))) = true then
          (2 : Int32)
        else
          (-1 : Int32)
      ) fun (j3 : Int32) =>
      j3
/-! X12_isEnd -/
def f_X12_isEnd (s : fu_S) : Bool :=
  (f_X12_isWord s (f_X12_spelled (101 : Int32) (110 : Int32) (100 : Int32) (0 : Int32) (0 : Int32) (0 : Int32)))
/-! X12_isKept -/
def f_X12_isKept (s : fu_S) : Bool :=
  if (f_X12_isOdds s) = true then
    true
  else
    if (f_X12_isArm s) = true then
      true
    else
      if (f_X12_isKindWord s) = true then
        true
      else
        if (f_X12_isStepWord s) = true then
          true
        else
          if (f_X12_isSpotWord s) = true then
            true
          else
            if (f_X12_isWeight s) = true then
              true
            else
              if (f_X12_isPerson s) = true then
                true
              else
                if (f_X12_isHome s) = true then
                  true
                else
                  if (f_X12_isReach s) = true then
                    true
                  else
                    if (f_X12_isThing s) = true then
                      true
                    else
                      if (f_X12_isWorth s) = true then
                        true
                      else
                        fu_lt (
                          if (f_X12_stepWord s) < 0 then
                            if (f_X12_testWord s) < 0 then
                              if (f_X12_isEnd s) = true then
                                true
                              else
                                false
                            else
                              true
                          else
                            true
                        ) fun (j12 : Bool) =>
                        j12
/-! X12_isName -/
def f_X12_isName (s : fu_S) : Bool :=
  fu_lt (
    if (s.1 117 14) = (1 : Int32) then
      if (s.1 117 18) ≤ (8 : Int32) then
        if (f_X12_isKept s) = true then
          false
        else
          true
      else
        false
    else
      false
  ) fun (j1 : Bool) =>
  j1
/-! X12_fail -/
def f_X12_fail (s : fu_S) (a1 : Int32) (a2 : Int32) : fu_S :=
  if (s.1 117 12) ≤ 0 then
    fu_lt (fu_pi s 117 12 a1) fun s2 =>
    fu_lt (fu_pi s2 117 13 a2) fun s3 =>
    s3
  else
    s
/-! X12_amiss -/
def f_X12_amiss (s : fu_S) : fu_S :=
  fu_lt (
    if (s.1 117 14) = (4 : Int32) then
      (1 : Int32)
    else
      (2 : Int32)
  ) fun (j1 : Int32) =>
  fu_lt (f_X12_fail s j1 (s.1 117 15)) fun r3 =>
  r3
/-! X12_must -/
def f_X12_must (s : fu_S) (a1 : Bool) : Option fu_S :=
  if (s.1 117 12) ≤ 0 then
    Option.bind (
      if a1 = true then
        Option.bind (f_X12_advance s) fun r4 =>
        some r4
      else
        fu_lt (f_X12_amiss s) fun r5 =>
        some r5
    ) fun (j2 : fu_S) =>
    some j2
  else
    some s
/-! X12_count -/
def f_X12_count (s : fu_S) (a1 : Int32) (a2 : Int32) : Option (Int32 × fu_S) :=
  Option.bind (
    if (s.1 117 12) = 0 then
      if (s.1 117 14) = (2 : Int32) then
        some s
      else
        fu_lt (f_X12_amiss s) fun r4 =>
        some r4
    else
      some s
  ) fun (j1 : fu_S) =>
  Option.bind (
    if (j1.1 117 12) = 0 then
      if (f_X12_isIn (Int32.toInt64 (j1.1 117 17)) (Int32.toInt64 a1) (Int32.toInt64 a2)) = true then
        some j1
      else
        fu_lt (f_X12_fail j1 (4 : Int32) (j1.1 117 15)) fun r8 =>
        some r8
    else
      some j1
  ) fun (j5 : fu_S) =>
  if (j5.1 117 12) ≤ 0 then
    Option.bind (f_X12_advance j5) fun r10 =>
    some ((j5.1 117 17), r10)
  else
    some ((0 : Int32), j5)
/-! X12_behindWord -/
def f_X12_behindWord (s : fu_S) (a1 : Bool) (a2 : Int32) (a3 : Int32) : Option (Int32 × fu_S) :=
  Option.bind (f_X12_must s a1) fun r1 =>
  Option.bind (f_X12_count r1 a2 a3) fun r2 =>
  some (r2.1, r2.2)
/-! X12_perhaps -/
def f_X12_perhaps (s : fu_S) (a1 : Bool) : Option (Bool × fu_S) :=
  if (s.1 117 12) ≤ 0 then
    if a1 = true then
      Option.bind (f_X12_advance s) fun r3 =>
      some (true, r3)
    else
      some (false, s)
  else
    some (false, s)
/-! X12_lay -/
def l_X12_lay_2 : Nat → fu_S → Int32 → Int32 → Option (fu_S)
  | 0, _, _, _ => none
  | n + 1, s, x1, x2 =>
    if x2 < 0 then
      some s
    else
      if am_in (s.1 117 8) 900 = true then
        fu_lt (fu_pi s 121 (Int32.toNatClampNeg (s.1 117 8)) (fu_by (Int8.toInt32 (Int32.toInt8 (x1 >>> (((8 : Int32) * x2) &&& 31)))))) fun s2 =>
        fu_lt (fu_pi s2 117 8 ((s2.1 117 8) + (1 : Int32))) fun s4 =>
        l_X12_lay_2 n s4 x1 (x2 + (-1 : Int32))
      else none
def f_X12_lay (s : fu_S) (a1 : Int32) : Option fu_S :=
  Option.bind (l_X12_lay_2 fu_N s a1 (3 : Int32)) fun (r5 : fu_S) =>
  some r5
/-! X12_feed -/
def f_X12_feed (s : fu_S) (a1 : Int32) (a2 : Int32) (a3 : Int32) (a4 : Int32) (a5 : Int32) : Option (Int32 × fu_S) :=
  fu_lt (fu_pi s 117 1 (0 : Int32)) fun s1 =>
  if ((s1.1 117 8) + (20 : Int32)) ≤ (900 : Int32) then
    Option.bind (f_X12_lay s1 a1) fun r3 =>
    Option.bind (f_X12_lay r3 a2) fun r4 =>
    Option.bind (f_X12_lay r4 a3) fun r5 =>
    Option.bind (f_X12_lay r5 a4) fun r6 =>
    Option.bind (f_X12_lay r6 a5) fun r7 =>
    some ((r7.1 117 8), r7)
  else
    some ((-1 : Int32), s1)
/-! X12_starts -/
def f_X12_starts (s : fu_S) (a1 : Int32) (a2 : Int32) : Option (Bool × fu_S) :=
  if a1 < 0 then
    fu_lt (f_X12_no s (5 : Int32)) fun r2 =>
    some (r2.1, r2.2)
  else
    if a1 ≤ (s.1 117 8) then
      if a1 ≤ a2 then
        fu_lt (fu_pi s 117 9 a1) fun s5 =>
        fu_lt (fu_pi s5 117 8 (0 : Int32)) fun s6 =>
        fu_lt (fu_pi s6 117 16 (0 : Int32)) fun s7 =>
        fu_lt (fu_pi s7 117 12 (0 : Int32)) fun s8 =>
        Option.bind (f_X12_advance s8) fun r9 =>
        some (true, r9)
      else
        fu_lt (f_X12_no s (5 : Int32)) fun r10 =>
        some (r10.1, r10.2)
    else
      fu_lt (f_X12_no s (5 : Int32)) fun r11 =>
      some (r11.1, r11.2)
/-! X12_isWell -/
def f_X12_isWell (s : fu_S) : (Bool × fu_S) :=
  fu_lt (fu_pi s 117 10 (s.1 117 12)) fun s1 =>
  fu_lt (
    if (s1.1 117 12) = 0 then
      (-1 : Int32)
    else
      (s1.1 117 13)
  ) fun (j2 : Int32) =>
  fu_lt (fu_pi s1 117 11 j2) fun s4 =>
  fu_lt (
    if (s4.1 117 12) = 0 then
      (true, s4)
    else
      fu_lt (f_X12_no s4 (10 : Int32)) fun r7 =>
      if r7.1 = true then
        (true, r7.2)
      else
        (false, r7.2)
  ) fun (j5 : Bool × fu_S) =>
  (j5.1, j5.2)
/-! X12_fault -/
def f_X12_fault (s : fu_S) (a1 : Int32) : (Int32 × fu_S) :=
  fu_lt (fu_pi s 117 1 (0 : Int32)) fun s1 =>
  fu_lt (
    if a1 = 0 then
      (s1.1 117 10)
    else
      if a1 = (1 : Int32) then
        (s1.1 117 11)
      else
        (-1 : Int32)
  ) fun (j2 : Int32) =>
  (j2, s1)
/-! X12_named -/
def l_X12_named_2 : Nat → fu_S → Int32 → Int32 → Option (Int32 ⊕ (Unit))
  | 0, _, _, _ => none
  | n + 1, s, x1, x2 =>
    if am_in (((355 : Int32) * x1) + (1 : Int32)) 1775 = true then
      if x2 < (s.1 122 (Int32.toNatClampNeg (((355 : Int32) * x1) + (1 : Int32)))) then
        if am_in (((7 : Int32) * x1) + x2) 35 = true then
          if (s.2 124 (Int32.toNatClampNeg (((7 : Int32) * x1) + x2))) = (s.2 117 19) then
            some (.inl x2)
          else
            l_X12_named_2 n s x1 (x2 + (1 : Int32))
        else none
      else
        some (.inr ())
    else none
def f_X12_named (s : fu_S) (a1 : Int32) : Option Int32 :=
  Option.bind (l_X12_named_2 fu_N s a1 (0 : Int32)) (Sum.elim (fun (a : Int32) => some a) fun (r5 : Unit) =>
    some (-1 : Int32)
  )
/-! X12_readTold -/
def f_X12_readTold (s : fu_S) (a1 : Int32) : Option (Int32 × fu_S) :=
  Option.bind (
    if (s.1 117 12) = 0 then
      if (f_X12_isName s) = true then
        some s
      else
        fu_lt (f_X12_amiss s) fun r4 =>
        some r4
    else
      some s
  ) fun (j1 : fu_S) =>
  if (j1.1 117 12) ≤ 0 then
    Option.bind (f_X12_named j1 a1) fun r6 =>
    Option.bind (
      if r6 < 0 then
        fu_lt (f_X12_fail j1 (3 : Int32) (j1.1 117 15)) fun r9 =>
        some r9
      else
        some j1
    ) fun (j7 : fu_S) =>
    Option.bind (f_X12_must j7 true) fun r10 =>
    some ((fu_mx (0 : Int32) r6), r10)
  else
    some ((0 : Int32), j1)
/-! X12_readOnce -/
def f_X12_readOnce (s : fu_S) (a1 : Int32) (a2 : Int32) : Option fu_S :=
  Option.bind (
    if (f_X12_has (s.1 117 24) a1) = true then
      fu_lt (f_X12_fail s (5 : Int32) (s.1 117 15)) fun r3 =>
      some r3
    else
      some s
  ) fun (j1 : fu_S) =>
  fu_lt (fu_pi j1 117 24 ((j1.1 117 24) ||| ((1 : Int32) <<< (a1 &&& 31)))) fun s4 =>
  Option.bind (f_X12_must s4 true) fun r5 =>
  Option.bind (f_X12_count r5 (0 : Int32) a2) fun r6 =>
  Option.bind (
    if (r6.2.1 117 12) = 0 then
      if am_in ((1420 : Int32) + a1) 1775 = true then
        fu_lt (fu_pi r6.2 122 (Int32.toNatClampNeg ((1420 : Int32) + a1)) r6.1) fun s9 =>
        some s9
      else none
    else
      some r6.2
  ) fun (j7 : fu_S) =>
  some j7
/-! X12_another -/
def f_X12_another (s : fu_S) (a1 : Int32) (a2 : Int32) : Option (Int32 × fu_S) :=
  if am_in ((1420 : Int32) + a1) 1775 = true then
    Option.bind (
      if (s.1 122 (Int32.toNatClampNeg ((1420 : Int32) + a1))) = a2 then
        fu_lt (f_X12_fail s (6 : Int32) (s.1 117 15)) fun r4 =>
        some r4
      else
        some s
    ) fun (j2 : fu_S) =>
    Option.bind (f_X12_must j2 true) fun r5 =>
    some ((s.1 122 (Int32.toNatClampNeg ((1420 : Int32) + a1))), r5)
  else none
/-! X12_readKind -/
def f_X12_readKind (s : fu_S) : Option fu_S :=
  Option.bind (f_X12_another s (0 : Int32) (5 : Int32)) fun r1 =>
  Option.bind (f_X12_behindWord r1.2 (f_X12_isStepWord r1.2) (1 : Int32) (9 : Int32)) fun r2 =>
  Option.bind (f_X12_behindWord r2.2 (f_X12_isSpotWord r2.2) (0 : Int32) (9 : Int32)) fun r3 =>
  Option.bind (f_X12_perhaps r3.2 (f_X12_isWeight r3.2)) fun r4 =>
  Option.bind (
    if r4.1 = true then
      Option.bind (f_X12_count r4.2 (1 : Int32) (9 : Int32)) fun r7 =>
      some (r7.1, r7.2)
    else
      some ((1 : Int32), r4.2)
  ) fun (j5 : Int32 × fu_S) =>
  if (j5.2.1 117 12) ≤ 0 then
    if am_in ((1426 : Int32) + r1.1) 1775 = true then
      fu_lt (fu_pi j5.2 122 (Int32.toNatClampNeg ((1426 : Int32) + r1.1)) r2.1) fun s9 =>
      if am_in ((1431 : Int32) + r1.1) 1775 = true then
        fu_lt (fu_pi s9 122 (Int32.toNatClampNeg ((1431 : Int32) + r1.1)) r3.1) fun s11 =>
        if am_in ((1436 : Int32) + r1.1) 1775 = true then
          fu_lt (fu_pi s11 122 (Int32.toNatClampNeg ((1436 : Int32) + r1.1)) j5.1) fun s13 =>
          fu_lt (fu_pi s13 122 1420 ((s13.1 122 1420) + (1 : Int32))) fun s15 =>
          some s15
        else none
      else none
    else none
  else
    some j5.2
/-! X12_readPerson -/
def l_X12_readPerson_100 : Nat → fu_S → Int32 → Int32 → Int32 → Option (Int32 × fu_S)
  | 0, _, _, _, _ => none
  | n + 1, s, x1, x2, x3 =>
    if (s.1 117 12) = 0 then
      if (s.1 117 14) = (2 : Int32) then
        Option.bind (
          if (f_X12_isIn (Int32.toInt64 (s.1 117 17)) (0 : Int64) (9 : Int64)) = true then
            if (f_X12_has x3 (s.1 117 17)) = true then
              fu_lt (f_X12_fail s (5 : Int32) (s.1 117 15)) fun r25 =>
              some r25
            else
              some s
          else
            some s
        ) fun (j22 : fu_S) =>
        Option.bind (f_X12_count j22 (0 : Int32) (9 : Int32)) fun r26 =>
        Option.bind (
          if (r26.2.1 117 12) = 0 then
            some ((1 : Int32) <<< (r26.1 &&& 31))
          else
            some (0 : Int32)
        ) fun (j27 : Int32) =>
        l_X12_readPerson_100 n r26.2 x1 x2 (x3 ||| j27)
      else
        some (x3, s)
    else
      some (x3, s)
def f_X12_readPerson (s : fu_S) : Option fu_S :=
  Option.bind (f_X12_another s (1 : Int32) (7 : Int32)) fun r1 =>
  Option.bind (
    if (r1.2.1 117 12) = 0 then
      if (f_X12_isName r1.2) = true then
        some r1.2
      else
        fu_lt (f_X12_amiss r1.2) fun r5 =>
        some r5
    else
      some r1.2
  ) fun (j2 : fu_S) =>
  Option.bind (
    if (j2.1 117 12) = 0 then
      Option.bind (f_X12_named j2 (4 : Int32)) fun r8 =>
      if r8 < 0 then
        some j2
      else
        fu_lt (f_X12_fail j2 (3 : Int32) (j2.1 117 15)) fun r10 =>
        some r10
    else
      some j2
  ) fun (j6 : fu_S) =>
  Option.bind (
    if (j6.1 117 12) = 0 then
      if am_in ((28 : Int32) + r1.1) 35 = true then
        fu_lt (fu_pl j6 124 (Int32.toNatClampNeg ((28 : Int32) + r1.1)) (j6.2 117 19)) fun s13 =>
        some s13
      else none
    else
      some j6
  ) fun (j11 : fu_S) =>
  Option.bind (f_X12_must j11 true) fun r15 =>
  Option.bind (f_X12_behindWord r15 (f_X12_isHome r15) (0 : Int32) (59 : Int32)) fun r16 =>
  Option.bind (f_X12_perhaps r16.2 (f_X12_isReach r16.2)) fun r17 =>
  Option.bind (
    if r17.1 = true then
      Option.bind (l_X12_readPerson_100 fu_N r17.2 r1.1 r16.1 (0 : Int32)) fun (r29 : Int32 × fu_S) =>
      some (r29.1, r29.2)
    else
      some ((0 : Int32), r17.2)
  ) fun (j18 : Int32 × fu_S) =>
  if (j18.2.1 117 12) ≤ 0 then
    if am_in ((1441 : Int32) + r1.1) 1775 = true then
      fu_lt (fu_pi j18.2 122 (Int32.toNatClampNeg ((1441 : Int32) + r1.1)) r16.1) fun s31 =>
      if am_in ((1448 : Int32) + r1.1) 1775 = true then
        fu_lt (fu_pi s31 122 (Int32.toNatClampNeg ((1448 : Int32) + r1.1)) j18.1) fun s33 =>
        fu_lt (fu_pi s33 122 1421 ((s33.1 122 1421) + (1 : Int32))) fun s35 =>
        some s35
      else none
    else none
  else
    some j18.2
/-! X12_loses -/
def f_X12_loses (s : fu_S) (a1 : Int32) (a2 : Int32) (a3 : Int32) (a4 : Int32) : Option fu_S :=
  if am_in (((355 : Int32) * a1) + (2 : Int32)) 1775 = true then
    if am_in ((((355 : Int32) * a1) + (35 : Int32)) + (s.1 122 (Int32.toNatClampNeg (((355 : Int32) * a1) + (2 : Int32))))) 1775 = true then
      fu_lt (fu_pi s 122 (Int32.toNatClampNeg ((((355 : Int32) * a1) + (35 : Int32)) + (s.1 122 (Int32.toNatClampNeg (((355 : Int32) * a1) + (2 : Int32)))))) a2) fun s2 =>
      if am_in ((((355 : Int32) * a1) + (43 : Int32)) + (s.1 122 (Int32.toNatClampNeg (((355 : Int32) * a1) + (2 : Int32))))) 1775 = true then
        fu_lt (fu_pi s2 122 (Int32.toNatClampNeg ((((355 : Int32) * a1) + (43 : Int32)) + (s.1 122 (Int32.toNatClampNeg (((355 : Int32) * a1) + (2 : Int32)))))) a3) fun s4 =>
        if am_in ((((355 : Int32) * a1) + (51 : Int32)) + (s.1 122 (Int32.toNatClampNeg (((355 : Int32) * a1) + (2 : Int32))))) 1775 = true then
          fu_lt (fu_pi s4 122 (Int32.toNatClampNeg ((((355 : Int32) * a1) + (51 : Int32)) + (s.1 122 (Int32.toNatClampNeg (((355 : Int32) * a1) + (2 : Int32)))))) a4) fun s6 =>
          if am_in (((355 : Int32) * a1) + (5 : Int32)) 1775 = true then
            if am_in ((((355 : Int32) * a1) + (59 : Int32)) + (s.1 122 (Int32.toNatClampNeg (((355 : Int32) * a1) + (2 : Int32))))) 1775 = true then
              fu_lt (fu_pi s6 122 (Int32.toNatClampNeg ((((355 : Int32) * a1) + (59 : Int32)) + (s.1 122 (Int32.toNatClampNeg (((355 : Int32) * a1) + (2 : Int32)))))) (s6.1 122 (Int32.toNatClampNeg (((355 : Int32) * a1) + (5 : Int32))))) fun s9 =>
              if am_in ((((355 : Int32) * a1) + (67 : Int32)) + (s.1 122 (Int32.toNatClampNeg (((355 : Int32) * a1) + (2 : Int32))))) 1775 = true then
                fu_lt (fu_pi s9 122 (Int32.toNatClampNeg ((((355 : Int32) * a1) + (67 : Int32)) + (s.1 122 (Int32.toNatClampNeg (((355 : Int32) * a1) + (2 : Int32)))))) (0 : Int32)) fun s11 =>
                if am_in ((((355 : Int32) * a1) + (75 : Int32)) + (s.1 122 (Int32.toNatClampNeg (((355 : Int32) * a1) + (2 : Int32))))) 1775 = true then
                  fu_lt (fu_pi s11 122 (Int32.toNatClampNeg ((((355 : Int32) * a1) + (75 : Int32)) + (s.1 122 (Int32.toNatClampNeg (((355 : Int32) * a1) + (2 : Int32)))))) (0 : Int32)) fun s13 =>
                  if am_in (((355 : Int32) * a1) + (2 : Int32)) 1775 = true then
                    if am_in (((355 : Int32) * a1) + (2 : Int32)) 1775 = true then
                      fu_lt (fu_pi s13 122 (Int32.toNatClampNeg (((355 : Int32) * a1) + (2 : Int32))) ((s13.1 122 (Int32.toNatClampNeg (((355 : Int32) * a1) + (2 : Int32)))) + (1 : Int32))) fun s16 =>
                      some s16
                    else none
                  else none
                else none
              else none
            else none
          else none
        else none
      else none
    else none
  else none
/-! X12_readThing -/
def f_X12_readThing (s : fu_S) : Option fu_S :=
  Option.bind (f_X12_another s (2 : Int32) (8 : Int32)) fun r1 =>
  Option.bind (f_X12_readTold r1.2 (4 : Int32)) fun r2 =>
  Option.bind (f_X12_count r2.2 (0 : Int32) ((r2.2.1 122 1420) - (1 : Int32))) fun r3 =>
  Option.bind (f_X12_perhaps r3.2 (f_X12_isWorth r3.2)) fun r4 =>
  Option.bind (
    if r4.1 = true then
      Option.bind (f_X12_count r4.2 (1 : Int32) (9 : Int32)) fun r7 =>
      some (r7.1, r7.2)
    else
      some ((1 : Int32), r4.2)
  ) fun (j5 : Int32 × fu_S) =>
  Option.bind (
    if (j5.2.1 117 12) = 0 then
      Option.bind (f_X12_loses j5.2 (4 : Int32) r2.1 r3.1 j5.1) fun r10 =>
      some r10
    else
      some j5.2
  ) fun (j8 : fu_S) =>
  some j8
/-! X12_readPart -/
def f_X12_readPart (s : fu_S) : Option fu_S :=
  Option.bind (
    if (f_X12_isOdds s) = true then
      Option.bind (f_X12_readOnce s (3 : Int32) (16 : Int32)) fun r3 =>
      some r3
    else
      if (f_X12_isArm s) = true then
        Option.bind (f_X12_readOnce s (4 : Int32) (59 : Int32)) fun r5 =>
        some r5
      else
        if (f_X12_isKindWord s) = true then
          Option.bind (f_X12_readKind s) fun r7 =>
          some r7
        else
          if (f_X12_isPerson s) = true then
            Option.bind (f_X12_readPerson s) fun r9 =>
            some r9
          else
            if (f_X12_isThing s) = true then
              Option.bind (f_X12_readThing s) fun r11 =>
              some r11
            else
              fu_lt (f_X12_amiss s) fun r12 =>
              some r12
  ) fun (j1 : fu_S) =>
  some j1
/-! X12_copy -/
def l_X12_copy_2 : Nat → fu_S → Int32 → Int32 → Int32 → Option (fu_S)
  | 0, _, _, _, _ => none
  | n + 1, s, x1, x2, x3 =>
    if x3 < (355 : Int32) then
      if am_in (((355 : Int32) * x1) + x3) 1775 = true then
        if am_in (((355 : Int32) * x2) + x3) 1775 = true then
          fu_lt (fu_pi s 122 (Int32.toNatClampNeg (((355 : Int32) * x2) + x3)) (s.1 122 (Int32.toNatClampNeg (((355 : Int32) * x1) + x3)))) fun s3 =>
          l_X12_copy_2 n s3 x1 x2 (x3 + (1 : Int32))
        else none
      else none
    else
      some s
def l_X12_copy_41 : Nat → fu_S → Int32 → Int32 → Int32 → Option (fu_S)
  | 0, _, _, _, _ => none
  | n + 1, s, x1, x2, x3 =>
    if x3 < (7 : Int32) then
      if am_in (((7 : Int32) * x1) + x3) 35 = true then
        if am_in (((7 : Int32) * x2) + x3) 35 = true then
          fu_lt (fu_pl s 124 (Int32.toNatClampNeg (((7 : Int32) * x2) + x3)) (s.2 124 (Int32.toNatClampNeg (((7 : Int32) * x1) + x3)))) fun s8 =>
          l_X12_copy_41 n s8 x1 x2 (x3 + (1 : Int32))
        else none
      else none
    else
      some s
def f_X12_copy (s : fu_S) (a1 : Int32) (a2 : Int32) : Option fu_S :=
  Option.bind (l_X12_copy_2 fu_N s a1 a2 (0 : Int32)) fun (r5 : fu_S) =>
  Option.bind (l_X12_copy_41 fu_N r5 a1 a2 (0 : Int32)) fun (r10 : fu_S) =>
  some r10
/-! X12_district -/
def l_X12_district_33 : Nat → fu_S → Option (fu_S)
  | 0, _ => none
  | n + 1, s =>
    if (s.1 117 12) = 0 then
      if (s.1 117 14) = 0 then
        some s
      else
        Option.bind (f_X12_readPart s) fun r9 =>
        Option.bind (f_X12_must r9 (f_X12_isSign r9 (59 : Int32))) fun r10 =>
        l_X12_district_33 n r10
    else
      some s
def f_X12_district (s : fu_S) (a1 : Int32) : Option (Int32 × fu_S) :=
  fu_lt (fu_pi s 117 1 (0 : Int32)) fun s1 =>
  fu_lt (fu_pi s1 117 0 (0 : Int32)) fun s2 =>
  Option.bind (f_X12_starts s2 a1 (900 : Int32)) fun r3 =>
  if r3.1 = true then
    Option.bind (f_X12_empties r3.2 (4 : Int32)) fun r5 =>
    fu_lt (fu_pi r5 117 24 (0 : Int32)) fun s6 =>
    Option.bind (l_X12_district_33 fu_N s6) fun (r11 : fu_S) =>
    fu_lt (f_X12_isWell r11) fun r12 =>
    if r12.1 = true then
      Option.bind (f_X12_copy r12.2 (4 : Int32) (0 : Int32)) fun r14 =>
      some ((r14.1 122 1), r14)
    else
      some ((-1 : Int32), r12.2)
  else
    some ((-1 : Int32), r3.2)
/-! X12_readTest -/
def f_X12_readTest (s : fu_S) (a1 : Int32) : Option fu_S :=
  Option.bind (
    if (f_X12_testWord s) < 0 then
      some false
    else
      some true
  ) fun (j1 : Bool) =>
  Option.bind (f_X12_must s j1) fun r3 =>
  if am_in (a1 + (5 : Int32)) 1775 = true then
    fu_lt (fu_pi r3 122 (Int32.toNatClampNeg (a1 + (5 : Int32))) (f_X12_testWord s)) fun s4 =>
    Option.bind (
      if (f_X12_testWord s) = 0 then
        Option.bind (f_X12_count s4 (0 : Int32) (7 : Int32)) fun r8 =>
        if am_in (a1 + (1 : Int32)) 1775 = true then
          fu_lt (fu_pi r8.2 122 (Int32.toNatClampNeg (a1 + (1 : Int32))) r8.1) fun s9 =>
          some s9
        else none
      else
        if (f_X12_testWord s) = (1 : Int32) then
          Option.bind (f_X12_count s4 (0 : Int32) (7 : Int32)) fun r12 =>
          if am_in (a1 + (1 : Int32)) 1775 = true then
            fu_lt (fu_pi r12.2 122 (Int32.toNatClampNeg (a1 + (1 : Int32))) r12.1) fun s13 =>
            some s13
          else none
        else
          some s4
    ) fun (j6 : fu_S) =>
    if (j6.1 117 12) ≤ 0 then
      if (f_X12_testWord s) < (2 : Int32) then
        some j6
      else
        Option.bind (
          if (j6.1 117 14) = (3 : Int32) then
            some (j6.1 117 17)
          else
            some (0 : Int32)
        ) fun (j17 : Int32) =>
        if am_in (a1 + (7 : Int32)) 1775 = true then
          fu_lt (fu_pi j6 122 (Int32.toNatClampNeg (a1 + (7 : Int32))) j17) fun s19 =>
          Option.bind (
            if (f_X12_isSign s19 (60 : Int32)) = true then
              some true
            else
              if (f_X12_isSign s19 (62 : Int32)) = true then
                some true
              else
                if (f_X12_isSign s19 (61 : Int32)) = true then
                  some true
                else
                  some false
          ) fun (j21 : Bool) =>
          Option.bind (f_X12_must s19 j21) fun r25 =>
          Option.bind (f_X12_count r25 (0 : Int32) (9999 : Int32)) fun r26 =>
          if am_in (a1 + (6 : Int32)) 1775 = true then
            fu_lt (fu_pi r26.2 122 (Int32.toNatClampNeg (a1 + (6 : Int32))) r26.1) fun s27 =>
            some s27
          else none
        else none
    else
      some j6
  else none
/-! X12_readRest -/
def f_X12_readRest (s : fu_S) (a1 : Int32) : Option fu_S :=
  if am_in a1 1775 = true then
    Option.bind (
      if (s.1 122 (Int32.toNatClampNeg a1)) = 0 then
        Option.bind (f_X12_count s (1 : Int32) (99 : Int32)) fun r4 =>
        if am_in (a1 + (1 : Int32)) 1775 = true then
          fu_lt (fu_pi r4.2 122 (Int32.toNatClampNeg (a1 + (1 : Int32))) r4.1) fun s5 =>
          some s5
        else none
      else
        if (s.1 122 (Int32.toNatClampNeg a1)) = (5 : Int32) then
          Option.bind (f_X12_count s (1 : Int32) (99 : Int32)) fun r8 =>
          if am_in (a1 + (1 : Int32)) 1775 = true then
            fu_lt (fu_pi r8.2 122 (Int32.toNatClampNeg (a1 + (1 : Int32))) r8.1) fun s9 =>
            some s9
          else none
        else
          if (s.1 122 (Int32.toNatClampNeg a1)) = (4 : Int32) then
            Option.bind (f_X12_readTest s a1) fun r12 =>
            some r12
          else
            if (s.1 122 (Int32.toNatClampNeg a1)) = (1 : Int32) then
              Option.bind (f_X12_readTold s (0 : Int32)) fun r14 =>
              if am_in (a1 + (1 : Int32)) 1775 = true then
                fu_lt (fu_pi r14.2 122 (Int32.toNatClampNeg (a1 + (1 : Int32))) r14.1) fun s15 =>
                Option.bind (
                  if (s.1 122 (Int32.toNatClampNeg a1)) = (1 : Int32) then
                    some ((s15.1 122 0) - (1 : Int32))
                  else
                    some (7 : Int32)
                ) fun (j17 : Int32) =>
                Option.bind (f_X12_count s15 (0 : Int32) j17) fun r19 =>
                if am_in (a1 + (2 : Int32)) 1775 = true then
                  fu_lt (fu_pi r19.2 122 (Int32.toNatClampNeg (a1 + (2 : Int32))) r19.1) fun s20 =>
                  some s20
                else none
              else none
            else
              if (s.1 122 (Int32.toNatClampNeg a1)) = (2 : Int32) then
                Option.bind (f_X12_readTold s (0 : Int32)) fun r23 =>
                if am_in (a1 + (1 : Int32)) 1775 = true then
                  fu_lt (fu_pi r23.2 122 (Int32.toNatClampNeg (a1 + (1 : Int32))) r23.1) fun s24 =>
                  Option.bind (
                    if (s.1 122 (Int32.toNatClampNeg a1)) = (1 : Int32) then
                      some ((s24.1 122 0) - (1 : Int32))
                    else
                      some (7 : Int32)
                  ) fun (j26 : Int32) =>
                  Option.bind (f_X12_count s24 (0 : Int32) j26) fun r28 =>
                  if am_in (a1 + (2 : Int32)) 1775 = true then
                    fu_lt (fu_pi r28.2 122 (Int32.toNatClampNeg (a1 + (2 : Int32))) r28.1) fun s29 =>
                    some s29
                  else none
                else none
              else
                some s
    ) fun (j2 : fu_S) =>
    some j2
  else none
/-! X12_readStep -/
def l_X12_readStep_140 (K : fu_S → Int32 → Option fu_S) : Nat → fu_S → Int32 → Bool → Int32 → Option (fu_S)
  | 0, _, _, _, _ => none
  | n + 1, s, x1, x3, x4 =>
    if x3 = true then
      if (s.1 117 12) = 0 then
        if (f_X12_isEnd s) = true then
          some s
        else
          Option.bind (K s (x1 + (1 : Int32))) fun r26 =>
          l_X12_readStep_140 K n r26 x1 x3 x4
      else
        some s
    else
      some s
def fb_X12_readStep (K : fu_S → Int32 → Option fu_S) (s : fu_S) (a1 : Int32) : Option fu_S :=
  Option.bind (
    if (f_X12_stepWord s) = (4 : Int32) then
      some true
    else
      if (f_X12_stepWord s) = (5 : Int32) then
        some true
      else
        some false
  ) fun (j1 : Bool) =>
  Option.bind (
    if (f_X12_stepWord s) < 0 then
      fu_lt (f_X12_amiss s) fun r6 =>
      some r6
    else
      some s
  ) fun (j4 : fu_S) =>
  Option.bind (
    if (j4.1 117 12) = 0 then
      if (j4.1 117 25) = (30 : Int32) then
        fu_lt (f_X12_fail j4 (6 : Int32) (j4.1 117 15)) fun r10 =>
        some r10
      else
        some j4
    else
      some j4
  ) fun (j7 : fu_S) =>
  Option.bind (
    if (j7.1 117 12) = 0 then
      if j1 = true then
        if a1 = (3 : Int32) then
          fu_lt (f_X12_fail j7 (7 : Int32) (j7.1 117 15)) fun r15 =>
          some r15
        else
          some j7
      else
        some j7
    else
      some j7
  ) fun (j11 : fu_S) =>
  if (j11.1 117 12) ≤ 0 then
    fu_lt (fu_pi j11 117 25 ((j11.1 117 25) + (1 : Int32))) fun s17 =>
    Option.bind (f_X12_advance s17) fun r18 =>
    if am_in ((1505 : Int32) + ((9 : Int32) * (j11.1 117 25))) 1775 = true then
      fu_lt (fu_pi r18 122 (Int32.toNatClampNeg ((1505 : Int32) + ((9 : Int32) * (j11.1 117 25)))) (f_X12_stepWord s)) fun s19 =>
      Option.bind (f_X12_readRest s19 ((1505 : Int32) + ((9 : Int32) * (j11.1 117 25)))) fun r21 =>
      Option.bind (f_X12_must r21 (f_X12_isSign r21 (59 : Int32))) fun r22 =>
      Option.bind (l_X12_readStep_140 K fu_N r22 a1 j1 ((1505 : Int32) + ((9 : Int32) * (j11.1 117 25)))) fun (r27 : fu_S) =>
      Option.bind (
        if j1 = true then
          Option.bind (f_X12_must r27 (f_X12_isEnd r27)) fun r30 =>
          Option.bind (f_X12_must r30 (f_X12_isSign r30 (59 : Int32))) fun r31 =>
          some r31
        else
          some r27
      ) fun (j28 : fu_S) =>
      if am_in (((1505 : Int32) + ((9 : Int32) * (j11.1 117 25))) + (8 : Int32)) 1775 = true then
        fu_lt (fu_pi j28 122 (Int32.toNatClampNeg (((1505 : Int32) + ((9 : Int32) * (j11.1 117 25))) + (8 : Int32))) (j28.1 117 25)) fun s32 =>
        some s32
      else none
    else none
  else
    some j11
def f_X12_readStep : Nat → fu_S → Int32 → Option fu_S
  | 0 => fun _ _ => none
  | n + 1 => fb_X12_readStep (f_X12_readStep n)
/-! X12_days -/
def l_X12_days_28 : Nat → fu_S → Option (fu_S)
  | 0, _ => none
  | n + 1, s =>
    if (s.1 117 12) = 0 then
      if (s.1 117 14) = 0 then
        some s
      else
        Option.bind (f_X12_readStep 16 s (0 : Int32)) fun r8 =>
        l_X12_days_28 n r8
    else
      some s
def l_X12_days_80 : Nat → fu_S → Int32 → Option (fu_S)
  | 0, _, _ => none
  | n + 1, s, x2 =>
    if x2 < ((9 : Int32) * (s.1 117 25)) then
      if am_in ((1505 : Int32) + x2) 1775 = true then
        if am_in ((85 : Int32) + x2) 1775 = true then
          fu_lt (fu_pi s 122 (Int32.toNatClampNeg ((85 : Int32) + x2)) (s.1 122 (Int32.toNatClampNeg ((1505 : Int32) + x2)))) fun s16 =>
          l_X12_days_80 n s16 (x2 + (1 : Int32))
        else none
      else none
    else
      some s
def f_X12_days (s : fu_S) (a1 : Int32) : Option (Int32 × fu_S) :=
  fu_lt (fu_pi s 117 1 (0 : Int32)) fun s1 =>
  fu_lt (fu_pi s1 117 0 (0 : Int32)) fun s2 =>
  Option.bind (f_X12_starts s2 a1 (300 : Int32)) fun r3 =>
  if r3.1 = true then
    fu_lt (fu_pi r3.2 117 25 (0 : Int32)) fun s5 =>
    Option.bind (l_X12_days_28 fu_N s5) fun (r9 : fu_S) =>
    fu_lt (f_X12_isWell r9) fun r10 =>
    if r10.1 = true then
      fu_lt (fu_pi r10.2 122 83 (1 : Int32)) fun s12 =>
      fu_lt (fu_pi s12 122 84 (s12.1 117 25)) fun s13 =>
      Option.bind (l_X12_days_80 fu_N s13 (0 : Int32)) fun (r18 : fu_S) =>
      some ((r18.1 117 25), r18)
    else
      some ((-1 : Int32), r10.2)
  else
    some ((-1 : Int32), r3.2)
/-! X12_isKindAt -/
def f_X12_isKindAt (s : fu_S) (a1 : Int64) : Bool :=
  (f_X12_isIn a1 (0 : Int64) (Int32.toInt64 ((s.1 122 0) - (1 : Int32))))
/-! X12_isPersonAt -/
def f_X12_isPersonAt (s : fu_S) (a1 : Int64) : Bool :=
  (f_X12_isIn a1 (0 : Int64) (Int32.toInt64 ((s.1 122 1) - (1 : Int32))))
/-! X12_isThingAt -/
def f_X12_isThingAt (s : fu_S) (a1 : Int32) : Bool :=
  (f_X12_isIn (Int32.toInt64 a1) (0 : Int64) (Int32.toInt64 ((s.1 122 2) - (1 : Int32))))
/-! X12_isSpotAt -/
def f_X12_isSpotAt (a0 : Int32) : Bool :=
  (f_X12_isIn (Int32.toInt64 a0) (0 : Int64) (9 : Int64))
/-! X12_farBy -/
def f_X12_farBy (s : fu_S) (a1 : Int32) (a2 : Int32) : Option Int32 :=
  if am_in ((21 : Int32) + a1) 1775 = true then
    if am_in ((21 : Int32) + a2) 1775 = true then
      some (fu_ab ((s.1 122 (Int32.toNatClampNeg ((21 : Int32) + a1))) - (s.1 122 (Int32.toNatClampNeg ((21 : Int32) + a2)))))
    else none
  else none
/-! X12_bearerBy -/
def f_X12_bearerBy (s : fu_S) (a1 : Int32) (a2 : Int32) : Option Int32 :=
  if am_in ((6 : Int32) + a2) 1775 = true then
    if (s.1 122 1) = 0 then none else
    some ((a1 + (s.1 122 (Int32.toNatClampNeg ((6 : Int32) + a2)))) - (a1 + (s.1 122 (Int32.toNatClampNeg ((6 : Int32) + a2)))) / (s.1 122 1) * (s.1 122 1))
  else none
/-! X12_spotBy -/
def f_X12_spotBy (s : fu_S) (a1 : Int32) (a2 : Int32) : Option Int32 :=
  if am_in ((11 : Int32) + a2) 1775 = true then
    some (((s.1 122 (Int32.toNatClampNeg ((11 : Int32) + a2))) + a1) - ((s.1 122 (Int32.toNatClampNeg ((11 : Int32) + a2))) + a1) / (10 : Int32) * (10 : Int32))
  else none
/-! X12_bearerOf -/
def f_X12_bearerOf (s : fu_S) (a1 : Int32) : Option Int32 :=
  if am_in ((35 : Int32) + a1) 1775 = true then
    if am_in ((43 : Int32) + a1) 1775 = true then
      Option.bind (f_X12_bearerBy s (s.1 122 (Int32.toNatClampNeg ((35 : Int32) + a1))) (s.1 122 (Int32.toNatClampNeg ((43 : Int32) + a1)))) fun r3 =>
      some r3
    else none
  else none
/-! X12_spotOf -/
def f_X12_spotOf (s : fu_S) (a1 : Int32) : Option Int32 :=
  if am_in ((35 : Int32) + a1) 1775 = true then
    if am_in ((43 : Int32) + a1) 1775 = true then
      Option.bind (f_X12_spotBy s (s.1 122 (Int32.toNatClampNeg ((35 : Int32) + a1))) (s.1 122 (Int32.toNatClampNeg ((43 : Int32) + a1)))) fun r3 =>
      some r3
    else none
  else none
/-! X12_wayOf -/
def f_X12_wayOf (s : fu_S) (a1 : Int32) : Option Int32 :=
  if am_in ((35 : Int32) + a1) 1775 = true then
    Option.bind (f_X12_bearerOf s a1) fun r2 =>
    Option.bind (f_X12_farBy s (s.1 122 (Int32.toNatClampNeg ((35 : Int32) + a1))) r2) fun r3 =>
    some r3
  else none
/-! X12_comesUp -/
def f_X12_comesUp (s : fu_S) (a1 : Int32) : Option Int32 :=
  if am_in ((59 : Int32) + a1) 1775 = true then
    Option.bind (f_X12_wayOf s a1) fun r2 =>
    some ((s.1 122 (Int32.toNatClampNeg ((59 : Int32) + a1))) + r2)
  else none
/-! X12_isScratched -/
def f_X12_isScratched (s : fu_S) (a1 : Int32) : Option Bool :=
  if am_in ((67 : Int32) + a1) 1775 = true then
    Option.bind (
      if (s.1 122 (Int32.toNatClampNeg ((67 : Int32) + a1))) ≤ 0 then
        some false
      else
        some true
    ) fun (j2 : Bool) =>
    some j2
  else none
/-! X12_isUp -/
def f_X12_isUp (s : fu_S) (a1 : Int32) : Option Bool :=
  Option.bind (f_X12_isScratched s a1) fun r1 =>
  Option.bind (
    if r1 = true then
      some false
    else
      Option.bind (f_X12_comesUp s a1) fun r4 =>
      if (s.1 122 5) < r4 then
        some false
      else
        some true
  ) fun (j2 : Bool) =>
  some j2
/-! X12_isFound -/
def f_X12_isFound (s : fu_S) (a1 : Int32) : Option Bool :=
  Option.bind (f_X12_isScratched s a1) fun r1 =>
  Option.bind (
    if r1 = true then
      if am_in ((75 : Int32) + a1) 1775 = true then
        if (s.1 122 5) < (s.1 122 (Int32.toNatClampNeg ((75 : Int32) + a1))) then
          some false
        else
          some true
      else none
    else
      some false
  ) fun (j2 : Bool) =>
  some j2
/-! X12_couldScratch -/
def f_X12_couldScratch (s : fu_S) (a1 : Int32) (a2 : Int32) : Option Bool :=
  Option.bind (f_X12_bearerOf s a2) fun r1 =>
  Option.bind (
    if a1 = r1 then
      if am_in ((28 : Int32) + a1) 1775 = true then
        Option.bind (f_X12_spotOf s a2) fun r5 =>
        some (f_X12_has (s.1 122 (Int32.toNatClampNeg ((28 : Int32) + a1))) r5)
      else none
    else
      Option.bind (f_X12_farBy s a1 r1) fun r6 =>
      if r6 ≤ (s.1 122 4) then
        some true
      else
        some false
  ) fun (j2 : Bool) =>
  some j2
/-! X12_whoCould -/
def l_X12_whoCould_4 : Nat → fu_S → Int32 → Int32 → Int32 → Option (Int32)
  | 0, _, _, _, _ => none
  | n + 1, s, x1, x2, x3 =>
    if x3 < (s.1 122 1) then
      Option.bind (f_X12_couldScratch s x3 x1) fun r2 =>
      Option.bind (
        if r2 = true then
          some ((1 : Int32) <<< (x3 &&& 31))
        else
          some (0 : Int32)
      ) fun (j3 : Int32) =>
      l_X12_whoCould_4 n s x1 (x2 ||| j3) (x3 + (1 : Int32))
    else
      some x2
def f_X12_whoCould (s : fu_S) (a1 : Int32) : Option Int32 :=
  Option.bind (l_X12_whoCould_4 fu_N s a1 (0 : Int32) (0 : Int32)) fun (r5 : Int32) =>
  some r5
/-! X12_things -/
def l_X12_things_4 : Nat → fu_S → Int32 → Int32 → Int32 → Option (Int32)
  | 0, _, _, _, _ => none
  | n + 1, s, x1, x2, x3 =>
    if x3 < (s.1 122 2) then
      Option.bind (
        if x1 = 0 then
          Option.bind (f_X12_isUp s x3) fun r4 =>
          if r4 = true then
            some ((1 : Int32) <<< (x3 &&& 31))
          else
            some (0 : Int32)
        else
          if x1 = (1 : Int32) then
            Option.bind (f_X12_isScratched s x3) fun r7 =>
            if r7 = true then
              some ((1 : Int32) <<< (x3 &&& 31))
            else
              some (0 : Int32)
          else
            Option.bind (f_X12_isFound s x3) fun r9 =>
            if r9 = true then
              some ((1 : Int32) <<< (x3 &&& 31))
            else
              some (0 : Int32)
      ) fun (j2 : Int32) =>
      l_X12_things_4 n s x1 (x2 ||| j2) (x3 + (1 : Int32))
    else
      some x2
def f_X12_things (s : fu_S) (a1 : Int32) : Option Int32 :=
  Option.bind (l_X12_things_4 fu_N s a1 (0 : Int32) (0 : Int32)) fun (r11 : Int32) =>
  some r11
/-! X12_many -/
def f_X12_many (s : fu_S) (a1 : Int32) : Option (Int32 × fu_S) :=
  fu_lt (fu_pi s 117 1 (0 : Int32)) fun s1 =>
  fu_lt (fu_pi s1 117 0 (0 : Int32)) fun s2 =>
  if (f_X12_isIn (Int32.toInt64 a1) (0 : Int64) (8 : Int64)) = true then
    Option.bind (
      if a1 < (6 : Int32) then
        if am_in a1 1775 = true then
          some (s2.1 122 (Int32.toNatClampNeg a1))
        else none
      else
        Option.bind (f_X12_things s2 (a1 - (6 : Int32))) fun r7 =>
        some r7
    ) fun (j4 : Int32) =>
    some (j4, s2)
  else
    fu_lt (f_X12_refuse s2 (5 : Int32)) fun r8 =>
    some (r8.1, r8.2)
/-! X12_kind -/
def f_X12_kind (s : fu_S) (a1 : Int32) (a2 : Int32) : Option (Int32 × fu_S) :=
  fu_lt (fu_pi s 117 1 (0 : Int32)) fun s1 =>
  fu_lt (fu_pi s1 117 0 (0 : Int32)) fun s2 =>
  if (f_X12_isKindAt s2 (Int32.toInt64 a1)) = true then
    Option.bind (
      if (f_X12_isIn (Int32.toInt64 a2) (0 : Int64) (2 : Int64)) = true then
        if am_in (((6 : Int32) + ((5 : Int32) * a2)) + a1) 1775 = true then
          some ((s2.1 122 (Int32.toNatClampNeg (((6 : Int32) + ((5 : Int32) * a2)) + a1))), s2)
        else none
      else
        fu_lt (f_X12_refuse s2 (5 : Int32)) fun r7 =>
        some (r7.1, r7.2)
    ) fun (j4 : Int32 × fu_S) =>
    some (j4.1, j4.2)
  else
    fu_lt (f_X12_refuse s2 (2 : Int32)) fun r8 =>
    some (r8.1, r8.2)
/-! X12_thingsOf -/
def l_X12_thingsOf_5 : Nat → fu_S → Int32 → Bool → Int32 → Int32 → Option (Int32)
  | 0, _, _, _, _, _ => none
  | n + 1, s, x1, x2, x3, x4 =>
    if x4 < (s.1 122 2) then
      Option.bind (
        if x2 = true then
          Option.bind (f_X12_isUp s x4) fun r4 =>
          if r4 = true then
            Option.bind (f_X12_bearerOf s x4) fun r6 =>
            if r6 = x1 then
              some ((1 : Int32) <<< (x4 &&& 31))
            else
              some (0 : Int32)
          else
            some (0 : Int32)
        else
          if am_in ((35 : Int32) + x4) 1775 = true then
            if (s.1 122 (Int32.toNatClampNeg ((35 : Int32) + x4))) = x1 then
              some ((1 : Int32) <<< (x4 &&& 31))
            else
              some (0 : Int32)
          else none
      ) fun (j2 : Int32) =>
      l_X12_thingsOf_5 n s x1 x2 (x3 ||| j2) (x4 + (1 : Int32))
    else
      some x3
def f_X12_thingsOf (s : fu_S) (a1 : Int32) (a2 : Bool) : Option Int32 :=
  Option.bind (l_X12_thingsOf_5 fu_N s a1 a2 (0 : Int32) (0 : Int32)) fun (r10 : Int32) =>
  some r10
/-! X12_person -/
def f_X12_person (s : fu_S) (a1 : Int32) (a2 : Int32) : Option (Int32 × fu_S) :=
  fu_lt (fu_pi s 117 1 (0 : Int32)) fun s1 =>
  fu_lt (fu_pi s1 117 0 (0 : Int32)) fun s2 =>
  if (f_X12_isPersonAt s2 (Int32.toInt64 a1)) = true then
    if (f_X12_isIn (Int32.toInt64 a2) (0 : Int64) (3 : Int64)) = true then
      Option.bind (
        if a2 < (2 : Int32) then
          if am_in (((21 : Int32) + ((7 : Int32) * a2)) + a1) 1775 = true then
            some (s2.1 122 (Int32.toNatClampNeg (((21 : Int32) + ((7 : Int32) * a2)) + a1)))
          else none
        else
          Option.bind (
            if a2 = (2 : Int32) then
              some true
            else
              some false
          ) fun (j8 : Bool) =>
          Option.bind (f_X12_thingsOf s2 a1 j8) fun r10 =>
          some r10
      ) fun (j5 : Int32) =>
      some (j5, s2)
    else
      fu_lt (f_X12_refuse s2 (5 : Int32)) fun r11 =>
      some (r11.1, r11.2)
  else
    fu_lt (f_X12_refuse s2 (2 : Int32)) fun r12 =>
    some (r12.1, r12.2)
/-! X12_thing -/
def f_X12_thing (s : fu_S) (a1 : Int32) (a2 : Int32) : Option (Int32 × fu_S) :=
  fu_lt (fu_pi s 117 1 (0 : Int32)) fun s1 =>
  fu_lt (fu_pi s1 117 0 (0 : Int32)) fun s2 =>
  if (f_X12_isThingAt s2 a1) = true then
    if (f_X12_isIn (Int32.toInt64 a2) (0 : Int64) (9 : Int64)) = true then
      if a2 < (4 : Int32) then
        if am_in (((35 : Int32) + ((8 : Int32) * a2)) + a1) 1775 = true then
          some ((s2.1 122 (Int32.toNatClampNeg (((35 : Int32) + ((8 : Int32) * a2)) + a1))), s2)
        else none
      else
        if a2 = (4 : Int32) then
          Option.bind (f_X12_bearerOf s2 a1) fun r8 =>
          some (r8, s2)
        else
          if a2 = (5 : Int32) then
            Option.bind (f_X12_spotOf s2 a1) fun r10 =>
            some (r10, s2)
          else
            if a2 = (6 : Int32) then
              Option.bind (f_X12_comesUp s2 a1) fun r12 =>
              some (r12, s2)
            else
              if a2 = (9 : Int32) then
                Option.bind (f_X12_whoCould s2 a1) fun r14 =>
                some (r14, s2)
              else
                Option.bind (f_X12_isScratched s2 a1) fun r15 =>
                if r15 = true then
                  Option.bind (
                    if a2 = (7 : Int32) then
                      if am_in ((67 : Int32) + a1) 1775 = true then
                        some ((s2.1 122 (Int32.toNatClampNeg ((67 : Int32) + a1))) - (1 : Int32))
                      else none
                    else
                      if am_in ((75 : Int32) + a1) 1775 = true then
                        some (s2.1 122 (Int32.toNatClampNeg ((75 : Int32) + a1)))
                      else none
                  ) fun (j17 : Int32) =>
                  some (j17, s2)
                else
                  fu_lt (f_X12_refuse s2 (8 : Int32)) fun r21 =>
                  some (r21.1, r21.2)
    else
      fu_lt (f_X12_refuse s2 (5 : Int32)) fun r22 =>
      some (r22.1, r22.2)
  else
    fu_lt (f_X12_refuse s2 (2 : Int32)) fun r23 =>
    some (r23.1, r23.2)
/-! X12_far -/
def f_X12_far (s : fu_S) (a1 : Int32) (a2 : Int32) : Option (Int32 × fu_S) :=
  fu_lt (fu_pi s 117 1 (0 : Int32)) fun s1 =>
  fu_lt (fu_pi s1 117 0 (0 : Int32)) fun s2 =>
  Option.bind (
    if (f_X12_isPersonAt s2 (Int32.toInt64 a1)) = true then
      if (f_X12_isPersonAt s2 (Int32.toInt64 a2)) = true then
        Option.bind (f_X12_farBy s2 a1 a2) fun r6 =>
        some (r6, s2)
      else
        fu_lt (f_X12_refuse s2 (2 : Int32)) fun r7 =>
        some (r7.1, r7.2)
    else
      fu_lt (f_X12_refuse s2 (2 : Int32)) fun r8 =>
      some (r8.1, r8.2)
  ) fun (j3 : Int32 × fu_S) =>
  some (j3.1, j3.2)
/-! X12_copyHomes -/
def l_X12_copyHomes_62 : Nat → fu_S → Int32 → Int32 → Option (fu_S)
  | 0, _, _, _ => none
  | n + 1, s, x1, x2 =>
    if x2 < (s.1 122 1) then
      if am_in ((21 : Int32) + x2) 1775 = true then
        Option.bind (f_X12_write s x1 x2 (Int32.toInt64 (s.1 122 (Int32.toNatClampNeg ((21 : Int32) + x2))))) fun r12 =>
        l_X12_copyHomes_62 n r12.2 x1 (x2 + (1 : Int32))
      else none
    else
      some s
def f_X12_copyHomes (s : fu_S) (a1 : Int32) : Option (Int32 × fu_S) :=
  fu_lt (fu_pi s 117 1 (0 : Int32)) fun s1 =>
  fu_lt (fu_pi s1 117 0 (0 : Int32)) fun s2 =>
  if (f_X12_isTray a1) = true then
    if am_in a1 4 = true then
      if (s2.1 119 (Int32.toNatClampNeg a1)) < 0 then
        fu_lt (f_X12_refuse s2 (3 : Int32)) fun r6 =>
        some (r6.1, r6.2)
      else
        if am_in a1 4 = true then
          if (s2.1 119 (Int32.toNatClampNeg a1)) < (s2.1 122 1) then
            fu_lt (f_X12_refuse s2 (4 : Int32)) fun r9 =>
            some (r9.1, r9.2)
          else
            Option.bind (l_X12_copyHomes_62 fu_N s2 a1 (0 : Int32)) fun (r13 : fu_S) =>
            some ((r13.1 122 1), r13)
        else none
    else none
  else
    fu_lt (f_X12_refuse s2 (1 : Int32)) fun r14 =>
    some (r14.1, r14.2)
/-! X12_lose -/
def f_X12_lose (s : fu_S) (a1 : Int32) (a2 : Int32) (a3 : Int32) : Option (Int32 × fu_S) :=
  fu_lt (fu_pi s 117 1 (0 : Int32)) fun s1 =>
  fu_lt (fu_pi s1 117 0 (0 : Int32)) fun s2 =>
  if (f_X12_isPersonAt s2 (Int32.toInt64 a1)) = true then
    if (f_X12_isKindAt s2 (Int32.toInt64 a2)) = true then
      if (f_X12_isIn (Int32.toInt64 a3) (1 : Int64) (9 : Int64)) = true then
        if (s2.1 122 2) = (8 : Int32) then
          fu_lt (f_X12_refuse s2 (7 : Int32)) fun r7 =>
          some (r7.1, r7.2)
        else
          Option.bind (f_X12_loses s2 (0 : Int32) a1 a2 a3) fun r8 =>
          some (((r8.1 122 2) - (1 : Int32)), r8)
      else
        fu_lt (f_X12_refuse s2 (5 : Int32)) fun r9 =>
        some (r9.1, r9.2)
    else
      fu_lt (f_X12_refuse s2 (2 : Int32)) fun r10 =>
      some (r10.1, r10.2)
  else
    fu_lt (f_X12_refuse s2 (2 : Int32)) fun r11 =>
    some (r11.1, r11.2)
/-! X12_pass -/
def f_X12_pass (s : fu_S) (a1 : Int32) : Option (Int32 × fu_S) :=
  fu_lt (fu_pi s 117 1 (0 : Int32)) fun s1 =>
  fu_lt (fu_pi s1 117 0 (0 : Int32)) fun s2 =>
  if (f_X12_isIn (Int32.toInt64 a1) (1 : Int64) (999 : Int64)) = true then
    if ((s2.1 122 5) + a1) ≤ (9999 : Int32) then
      fu_lt (fu_pi s2 122 5 ((s2.1 122 5) + a1)) fun s5 =>
      Option.bind (f_X12_things s5 (0 : Int32)) fun r6 =>
      some (r6, s5)
    else
      fu_lt (f_X12_refuse s2 (7 : Int32)) fun r7 =>
      some (r7.1, r7.2)
  else
    fu_lt (f_X12_refuse s2 (5 : Int32)) fun r8 =>
    some (r8.1, r8.2)
/-! X12_scratches -/
def f_X12_scratches (s : fu_S) (a1 : Int32) (a2 : Int32) : Option (Bool × fu_S) :=
  if (f_X12_isThingAt s a2) = true then
    Option.bind (f_X12_isUp s a2) fun r2 =>
    if r2 = true then
      Option.bind (f_X12_couldScratch s a1 a2) fun r4 =>
      if r4 = true then
        if am_in ((67 : Int32) + a2) 1775 = true then
          fu_lt (fu_pi s 122 (Int32.toNatClampNeg ((67 : Int32) + a2)) ((s.1 122 5) + (1 : Int32))) fun s6 =>
          Option.bind (f_X12_wayOf s6 a2) fun r8 =>
          if am_in ((75 : Int32) + a2) 1775 = true then
            fu_lt (fu_pi s6 122 (Int32.toNatClampNeg ((75 : Int32) + a2)) ((s6.1 122 5) + r8)) fun s9 =>
            some (true, s9)
          else none
        else none
      else
        some (false, s)
    else
      some (false, s)
  else
    some (false, s)
/-! X12_scratch -/
def f_X12_scratch (s : fu_S) (a1 : Int32) (a2 : Int32) : Option (Int32 × fu_S) :=
  fu_lt (fu_pi s 117 1 (0 : Int32)) fun s1 =>
  fu_lt (fu_pi s1 117 0 (0 : Int32)) fun s2 =>
  if (f_X12_isPersonAt s2 (Int32.toInt64 a1)) = true then
    if (f_X12_isThingAt s2 a2) = true then
      Option.bind (f_X12_scratches s2 a1 a2) fun r5 =>
      Option.bind (
        if r5.1 = true then
          if am_in ((75 : Int32) + a2) 1775 = true then
            some ((r5.2.1 122 (Int32.toNatClampNeg ((75 : Int32) + a2))), r5.2)
          else none
        else
          fu_lt (f_X12_refuse r5.2 (9 : Int32)) fun r9 =>
          some (r9.1, r9.2)
      ) fun (j6 : Int32 × fu_S) =>
      some (j6.1, j6.2)
    else
      fu_lt (f_X12_refuse s2 (2 : Int32)) fun r10 =>
      some (r10.1, r10.2)
  else
    fu_lt (f_X12_refuse s2 (2 : Int32)) fun r11 =>
    some (r11.1, r11.2)
/-! X12_teach -/
def f_X12_teach (s : fu_S) (a1 : Int32) (a2 : Int32) (a3 : Bool) : Option (Bool × fu_S) :=
  fu_lt (fu_pi s 117 1 (0 : Int32)) fun s1 =>
  fu_lt (fu_pi s1 117 0 (0 : Int32)) fun s2 =>
  if (f_X12_isPersonAt s2 (Int32.toInt64 a1)) = true then
    if (f_X12_isSpotAt a2) = true then
      if am_in ((28 : Int32) + a1) 1775 = true then
        if (fu_b (f_X12_has (s2.1 122 (Int32.toNatClampNeg ((28 : Int32) + a1))) a2)) = (fu_b a3) then
          fu_lt (f_X12_no s2 (9 : Int32)) fun r7 =>
          some (r7.1, r7.2)
        else
          if am_in ((28 : Int32) + a1) 1775 = true then
            if am_in ((28 : Int32) + a1) 1775 = true then
              fu_lt (fu_pi s2 122 (Int32.toNatClampNeg ((28 : Int32) + a1)) ((s2.1 122 (Int32.toNatClampNeg ((28 : Int32) + a1))) ^^^ ((1 : Int32) <<< (a2 &&& 31)))) fun s9 =>
              some (true, s9)
            else none
          else none
      else none
    else
      fu_lt (f_X12_no s2 (2 : Int32)) fun r11 =>
      some (r11.1, r11.2)
  else
    fu_lt (f_X12_no s2 (2 : Int32)) fun r12 =>
    some (r12.1, r12.2)
/-! X12_move -/
def f_X12_move (s : fu_S) (a1 : Int32) (a2 : Int32) : Option (Int32 × fu_S) :=
  fu_lt (fu_pi s 117 1 (0 : Int32)) fun s1 =>
  fu_lt (fu_pi s1 117 0 (0 : Int32)) fun s2 =>
  if (f_X12_isPersonAt s2 (Int32.toInt64 a1)) = true then
    if (f_X12_isIn (Int32.toInt64 a2) (0 : Int64) (59 : Int64)) = true then
      if am_in ((21 : Int32) + a1) 1775 = true then
        if am_in ((21 : Int32) + a1) 1775 = true then
          fu_lt (fu_pi s2 122 (Int32.toNatClampNeg ((21 : Int32) + a1)) a2) fun s6 =>
          some ((s2.1 122 (Int32.toNatClampNeg ((21 : Int32) + a1))), s6)
        else none
      else none
    else
      fu_lt (f_X12_refuse s2 (5 : Int32)) fun r8 =>
      some (r8.1, r8.2)
  else
    fu_lt (f_X12_refuse s2 (2 : Int32)) fun r9 =>
    some (r9.1, r9.2)
/-! X12_come -/
def f_X12_come (s : fu_S) (a1 : Int32) : Option (Int32 × fu_S) :=
  fu_lt (fu_pi s 117 1 (0 : Int32)) fun s1 =>
  fu_lt (fu_pi s1 117 0 (0 : Int32)) fun s2 =>
  if (f_X12_isIn (Int32.toInt64 a1) (0 : Int64) (59 : Int64)) = true then
    if (s2.1 122 1) = (7 : Int32) then
      fu_lt (f_X12_refuse s2 (7 : Int32)) fun r5 =>
      some (r5.1, r5.2)
    else
      if am_in (s2.1 122 1) 35 = true then
        fu_lt (fu_pl s2 124 (Int32.toNatClampNeg (s2.1 122 1)) (0 : Int64)) fun s6 =>
        if am_in ((21 : Int32) + (s2.1 122 1)) 1775 = true then
          fu_lt (fu_pi s6 122 (Int32.toNatClampNeg ((21 : Int32) + (s2.1 122 1))) a1) fun s8 =>
          if am_in ((28 : Int32) + (s2.1 122 1)) 1775 = true then
            fu_lt (fu_pi s8 122 (Int32.toNatClampNeg ((28 : Int32) + (s2.1 122 1))) (0 : Int32)) fun s10 =>
            fu_lt (fu_pi s10 122 1 ((s10.1 122 1) + (1 : Int32))) fun s12 =>
            some ((s2.1 122 1), s12)
          else none
        else none
      else none
  else
    fu_lt (f_X12_refuse s2 (5 : Int32)) fun r13 =>
    some (r13.1, r13.2)
/-! X12_rewrite -/
def f_X12_rewrite (s : fu_S) (a1 : Int32) (a2 : Int32) (a3 : Int32) : Option (Int32 × fu_S) :=
  fu_lt (fu_pi s 117 1 (0 : Int32)) fun s1 =>
  fu_lt (fu_pi s1 117 0 (0 : Int32)) fun s2 =>
  if (f_X12_isKindAt s2 (Int32.toInt64 a1)) = true then
    if (f_X12_isIn (Int32.toInt64 a2) (0 : Int64) (2 : Int64)) = true then
      Option.bind (
        if a2 = (1 : Int32) then
          some (0 : Int64)
        else
          some (1 : Int64)
      ) fun (j5 : Int64) =>
      if (f_X12_isIn (Int32.toInt64 a3) j5 (9 : Int64)) = true then
        if am_in (((6 : Int32) + ((5 : Int32) * a2)) + a1) 1775 = true then
          if am_in (((6 : Int32) + ((5 : Int32) * a2)) + a1) 1775 = true then
            fu_lt (fu_pi s2 122 (Int32.toNatClampNeg (((6 : Int32) + ((5 : Int32) * a2)) + a1)) a3) fun s9 =>
            some ((s2.1 122 (Int32.toNatClampNeg (((6 : Int32) + ((5 : Int32) * a2)) + a1))), s9)
          else none
        else none
      else
        fu_lt (f_X12_refuse s2 (5 : Int32)) fun r11 =>
        some (r11.1, r11.2)
    else
      fu_lt (f_X12_refuse s2 (5 : Int32)) fun r12 =>
      some (r12.1, r12.2)
  else
    fu_lt (f_X12_refuse s2 (2 : Int32)) fun r13 =>
    some (r13.1, r13.2)
/-! X12_rule -/
def f_X12_rule (s : fu_S) (a1 : Int32) (a2 : Int32) : Option (Bool × fu_S) :=
  fu_lt (fu_pi s 117 1 (0 : Int32)) fun s1 =>
  fu_lt (fu_pi s1 117 0 (0 : Int32)) fun s2 =>
  if a1 = (3 : Int32) then
    Option.bind (
      if a1 = (3 : Int32) then
        some (16 : Int64)
      else
        some (59 : Int64)
    ) fun (j4 : Int64) =>
    if (f_X12_isIn (Int32.toInt64 a2) (0 : Int64) j4) = true then
      if am_in a1 1775 = true then
        fu_lt (fu_pi s2 122 (Int32.toNatClampNeg a1) a2) fun s7 =>
        some (true, s7)
      else none
    else
      fu_lt (f_X12_no s2 (5 : Int32)) fun r9 =>
      some (r9.1, r9.2)
  else
    if a1 = (4 : Int32) then
      Option.bind (
        if a1 = (3 : Int32) then
          some (16 : Int64)
        else
          some (59 : Int64)
      ) fun (j11 : Int64) =>
      if (f_X12_isIn (Int32.toInt64 a2) (0 : Int64) j11) = true then
        if am_in a1 1775 = true then
          fu_lt (fu_pi s2 122 (Int32.toNatClampNeg a1) a2) fun s14 =>
          some (true, s14)
        else none
      else
        fu_lt (f_X12_no s2 (5 : Int32)) fun r16 =>
        some (r16.1, r16.2)
    else
      fu_lt (f_X12_no s2 (5 : Int32)) fun r17 =>
      some (r17.1, r17.2)
/-! X12_soonest -/
def f_X12_soonest (s : fu_S) (a1 : Int32) : Option (Int32 × fu_S) :=
  fu_lt (fu_pi s 117 1 (0 : Int32)) fun s1 =>
  fu_lt (fu_pi s1 117 0 (0 : Int32)) fun s2 =>
  if (f_X12_isThingAt s2 a1) = true then
    Option.bind (f_X12_isScratched s2 a1) fun r4 =>
    if r4 = true then
      if am_in ((75 : Int32) + a1) 1775 = true then
        some ((s2.1 122 (Int32.toNatClampNeg ((75 : Int32) + a1))), s2)
      else none
    else
      Option.bind (f_X12_whoCould s2 a1) fun r7 =>
      Option.bind (
        if r7 = 0 then
          fu_lt (f_X12_refuse s2 (8 : Int32)) fun r10 =>
          some (r10.1, r10.2)
        else
          Option.bind (f_X12_comesUp s2 a1) fun r11 =>
          Option.bind (f_X12_wayOf s2 a1) fun r12 =>
          some (((fu_mx (s2.1 122 5) r11) + r12), s2)
      ) fun (j8 : Int32 × fu_S) =>
      some (j8.1, j8.2)
  else
    fu_lt (f_X12_refuse s2 (2 : Int32)) fun r13 =>
    some (r13.1, r13.2)
/-! X12_works2 -/
def l_X12_works2_45 (K : fu_S → Int32 → Int32 → Option Int32) : Nat → fu_S → Int32 → Int32 → Int32 → Int32 → Int32 → Option (Int32)
  | 0, _, _, _, _, _, _ => none
  | n + 1, s, x1, x2, x3, x4, x5 =>
    if x5 < (s.1 122 1) then
      if x3 < ((s.1 122 2) - x1) then
        Option.bind (
          if (f_X12_has x4 x5) = true then
            Option.bind (K s (x1 + (1 : Int32)) (x2 &&& (((1 : Int32) <<< (x5 &&& 31)) ^^^ (-1 : Int32)))) fun r11 =>
            some (fu_mx x3 ((1 : Int32) + r11))
          else
            some x3
        ) fun (j9 : Int32) =>
        l_X12_works2_45 K n s x1 x2 j9 x4 (x5 + (1 : Int32))
      else
        some x3
    else
      some x3
def fb_X12_works2 (K : fu_S → Int32 → Int32 → Option Int32) (s : fu_S) (a1 : Int32) (a2 : Int32) : Option Int32 :=
  if a1 = (s.1 122 2) then
    some (0 : Int32)
  else
    Option.bind (K s (a1 + (1 : Int32)) a2) fun r2 =>
    Option.bind (f_X12_isUp s a1) fun r3 =>
    Option.bind (
      if r3 = true then
        Option.bind (f_X12_whoCould s a1) fun r6 =>
        some (r6 &&& a2)
      else
        some (0 : Int32)
    ) fun (j4 : Int32) =>
    Option.bind (l_X12_works2_45 K fu_N s a1 a2 r2 j4 (0 : Int32)) fun (r12 : Int32) =>
    some r12
def f_X12_works2 : Nat → fu_S → Int32 → Int32 → Option Int32
  | 0 => fun _ _ _ => none
  | n + 1 => fb_X12_works2 (f_X12_works2 n)
/-! X12_everybody -/
def f_X12_everybody (s : fu_S) : Int32 :=
  (((1 : Int32) <<< ((s.1 122 1) &&& 31)) - (1 : Int32))
/-! X12_round -/
def f_X12_round (s : fu_S) : Option (Int32 × fu_S) :=
  fu_lt (fu_pi s 117 1 (0 : Int32)) fun s1 =>
  fu_lt (fu_pi s1 117 0 (0 : Int32)) fun s2 =>
  Option.bind (f_X12_works2 16 s2 (0 : Int32) (f_X12_everybody s2)) fun r3 =>
  some (r3, s2)
/-! X12_works -/
def l_X12_works_84 : Nat → fu_S → Int32 → Int32 → Int32 → Int32 → Int32 → Int32 → Int32 → Option (Int32)
  | 0, _, _, _, _, _, _, _, _ => none
  | n + 1, s, x1, x2, x3, x4, x5, x6, x7 =>
    if x7 < 0 then
      some x3
    else
      Option.bind (
        if (f_X12_has x6 x7) = true then
          Option.bind (f_X12_works2 16 s (x4 + (1 : Int32)) (x2 &&& (((1 : Int32) <<< (x7 &&& 31)) ^^^ (-1 : Int32)))) fun r13 =>
          if ((1 : Int32) + r13) = x5 then
            some x7
          else
            some x3
        else
          some x3
      ) fun (j11 : Int32) =>
      l_X12_works_84 n s x1 x2 j11 x4 x5 x6 (x7 + (-1 : Int32))
def l_X12_works_34 : Nat → fu_S → Int32 → Int32 → Int32 → Int32 → Option (Int32)
  | 0, _, _, _, _, _ => none
  | n + 1, s, x1, x2, x3, x4 =>
    if x4 ≤ x1 then
      Option.bind (f_X12_works2 16 s x4 x2) fun r5 =>
      Option.bind (f_X12_isUp s x4) fun r6 =>
      Option.bind (
        if r6 = true then
          Option.bind (f_X12_whoCould s x4) fun r9 =>
          some (r9 &&& x2)
        else
          some (0 : Int32)
      ) fun (j7 : Int32) =>
      Option.bind (l_X12_works_84 fu_N s x1 x2 (-1 : Int32) x4 r5 j7 ((s.1 122 1) - (1 : Int32))) fun (r15 : Int32) =>
      Option.bind (
        if r15 < 0 then
          some x2
        else
          some (x2 &&& (((1 : Int32) <<< (r15 &&& 31)) ^^^ (-1 : Int32)))
      ) fun (j16 : Int32) =>
      l_X12_works_34 n s x1 j16 r15 (x4 + (1 : Int32))
    else
      some x3
def f_X12_works (s : fu_S) (a1 : Int32) : Option (Int32 × fu_S) :=
  fu_lt (fu_pi s 117 1 (0 : Int32)) fun s1 =>
  fu_lt (fu_pi s1 117 0 (0 : Int32)) fun s2 =>
  if (f_X12_isThingAt s2 a1) = true then
    Option.bind (l_X12_works_34 fu_N s2 a1 (f_X12_everybody s2) (-1 : Int32) (0 : Int32)) fun (r18 : Int32) =>
    Option.bind (
      if r18 < 0 then
        fu_lt (f_X12_refuse s2 (8 : Int32)) fun r21 =>
        some (r21.1, r21.2)
      else
        some (r18, s2)
    ) fun (j19 : Int32 × fu_S) =>
    some (j19.1, j19.2)
  else
    fu_lt (f_X12_refuse s2 (2 : Int32)) fun r22 =>
    some (r22.1, r22.2)
/-! X12_laysNeeds -/
def l_X12_laysNeeds_2 : Nat → fu_S → Int32 → Int32 → Option (fu_S)
  | 0, _, _, _ => none
  | n + 1, s, x1, x2 =>
    if x2 < (7 : Int32) then
      if am_in x2 7 = true then
        fu_lt (fu_pi s 125 (Int32.toNatClampNeg x2) (0 : Int32)) fun s2 =>
        l_X12_laysNeeds_2 n s2 x1 (x2 + (1 : Int32))
      else none
    else
      some s
def l_X12_laysNeeds_23 : Nat → fu_S → Int32 → Int32 → Option (fu_S)
  | 0, _, _, _ => none
  | n + 1, s, x1, x2 =>
    if x2 < (s.1 122 2) then
      Option.bind (f_X12_isScratched s x2) fun r6 =>
      Option.bind (
        if r6 = true then
          some s
        else
          if (f_X12_has x1 x2) = true then
            some s
          else
            if am_in ((35 : Int32) + x2) 1775 = true then
              if am_in (s.1 122 (Int32.toNatClampNeg ((35 : Int32) + x2))) 7 = true then
                Option.bind (f_X12_bearerOf s x2) fun r12 =>
                if am_in (s.1 122 (Int32.toNatClampNeg ((35 : Int32) + x2))) 7 = true then
                  fu_lt (fu_pi s 125 (Int32.toNatClampNeg (s.1 122 (Int32.toNatClampNeg ((35 : Int32) + x2)))) ((s.1 125 (Int32.toNatClampNeg (s.1 122 (Int32.toNatClampNeg ((35 : Int32) + x2))))) ||| ((1 : Int32) <<< (r12 &&& 31)))) fun s13 =>
                  some s13
                else none
              else none
            else none
      ) fun (j7 : fu_S) =>
      l_X12_laysNeeds_23 n j7 x1 (x2 + (1 : Int32))
    else
      some s
def f_X12_laysNeeds (s : fu_S) (a1 : Int32) : Option fu_S :=
  Option.bind (l_X12_laysNeeds_2 fu_N s a1 (0 : Int32)) fun (r4 : fu_S) =>
  Option.bind (l_X12_laysNeeds_23 fu_N r4 a1 (0 : Int32)) fun (r15 : fu_S) =>
  some r15
/-! X12_needs -/
def f_X12_needs (s : fu_S) (a1 : Int32) : Option (Int32 × fu_S) :=
  fu_lt (fu_pi s 117 1 (0 : Int32)) fun s1 =>
  fu_lt (fu_pi s1 117 0 (0 : Int32)) fun s2 =>
  if (f_X12_isPersonAt s2 (Int32.toInt64 a1)) = true then
    Option.bind (f_X12_laysNeeds s2 (0 : Int32)) fun r4 =>
    if am_in a1 7 = true then
      some ((r4.1 125 (Int32.toNatClampNeg a1)), r4)
    else none
  else
    fu_lt (f_X12_refuse s2 (2 : Int32)) fun r6 =>
    some (r6.1, r6.2)
/-! X12_ringFrom -/
def l_X12_ringFrom_18 : Nat → fu_S → Int32 → Int32 → Int32 → Int32 → Int32 → Option (Int32)
  | 0, _, _, _, _, _, _ => none
  | n + 1, s, x1, x2, x3, x4, x5 =>
    if x5 < (7 : Int32) then
      Option.bind (
        if (f_X12_has x2 x5) = true then
          if am_in x5 7 = true then
            some (s.1 125 (Int32.toNatClampNeg x5))
          else none
        else
          some (0 : Int32)
      ) fun (j3 : Int32) =>
      l_X12_ringFrom_18 n s x1 x2 x3 (x4 ||| j3) (x5 + (1 : Int32))
    else
      some x4
def l_X12_ringFrom_6 : Nat → fu_S → Int32 → Int32 → Int32 → Option (Int32 ⊕ (Unit))
  | 0, _, _, _, _ => none
  | n + 1, s, x1, x2, x3 =>
    if x3 ≤ (7 : Int32) then
      Option.bind (l_X12_ringFrom_18 fu_N s x1 x2 x3 (0 : Int32) (0 : Int32)) fun (r6 : Int32) =>
      if (f_X12_has r6 x1) = true then
        some (.inl x3)
      else
        l_X12_ringFrom_6 n s x1 r6 (x3 + (1 : Int32))
    else
      some (.inr ())
def f_X12_ringFrom (s : fu_S) (a1 : Int32) : Option Int32 :=
  Option.bind (l_X12_ringFrom_6 fu_N s a1 ((1 : Int32) <<< (a1 &&& 31)) (1 : Int32)) (Sum.elim (fun (a : Int32) => some a) fun (r8 : Unit) =>
    some (-1 : Int32)
  )
/-! X12_shortestRing -/
def l_X12_shortestRing_4 : Nat → fu_S → Int32 → Int32 → Option (Int32)
  | 0, _, _, _ => none
  | n + 1, s, x1, x2 =>
    if x2 < (s.1 122 1) then
      Option.bind (f_X12_ringFrom s x2) fun r2 =>
      Option.bind (
        if r2 < 0 then
          some x1
        else
          if x1 < 0 then
            some r2
          else
            if r2 < x1 then
              some r2
            else
              some x1
      ) fun (j3 : Int32) =>
      l_X12_shortestRing_4 n s j3 (x2 + (1 : Int32))
    else
      some x1
def f_X12_shortestRing (s : fu_S) : Option Int32 :=
  Option.bind (l_X12_shortestRing_4 fu_N s (-1 : Int32) (0 : Int32)) fun (r7 : Int32) =>
  some r7
/-! X12_ring -/
def f_X12_ring (s : fu_S) : Option (Int32 × fu_S) :=
  fu_lt (fu_pi s 117 1 (0 : Int32)) fun s1 =>
  fu_lt (fu_pi s1 117 0 (0 : Int32)) fun s2 =>
  Option.bind (f_X12_laysNeeds s2 (0 : Int32)) fun r3 =>
  Option.bind (f_X12_shortestRing r3) fun r4 =>
  Option.bind (
    if r4 < 0 then
      fu_lt (f_X12_refuse r3 (8 : Int32)) fun r7 =>
      some (r7.1, r7.2)
    else
      some (r4, r3)
  ) fun (j5 : Int32 × fu_S) =>
  some (j5.1, j5.2)
/-! X12_endings -/
def l_X12_endings_4 : Nat → fu_S → Int32 → Int32 → Option (Int32 × fu_S)
  | 0, _, _, _ => none
  | n + 1, s, x1, x2 =>
    if x2 < ((1 : Int32) <<< ((s.1 122 2) &&& 31)) then
      Option.bind (f_X12_things s (1 : Int32)) fun r2 =>
      Option.bind (
        if (x2 &&& r2) = 0 then
          if x1 < 0 then
            Option.bind (f_X12_laysNeeds s x2) fun r6 =>
            Option.bind (f_X12_shortestRing r6) fun r7 =>
            if r7 < 0 then
              some (x2, r6)
            else
              some (x1, r6)
          else
            Option.bind (f_X12_sizeOf x2) fun r9 =>
            Option.bind (f_X12_sizeOf x1) fun r10 =>
            if r9 < r10 then
              Option.bind (f_X12_laysNeeds s x2) fun r12 =>
              Option.bind (f_X12_shortestRing r12) fun r13 =>
              if r13 < 0 then
                some (x2, r12)
              else
                some (x1, r12)
            else
              some (x1, s)
        else
          some (x1, s)
      ) fun (j3 : Int32 × fu_S) =>
      l_X12_endings_4 n j3.2 j3.1 (x2 + (1 : Int32))
    else
      some (x1, s)
def f_X12_endings (s : fu_S) : Option (Int32 × fu_S) :=
  Option.bind (l_X12_endings_4 fu_N s (-1 : Int32) (0 : Int32)) fun (r15 : Int32 × fu_S) =>
  some (r15.1, r15.2)
/-! X12_ending -/
def f_X12_ending (s : fu_S) : Option (Int32 × fu_S) :=
  fu_lt (fu_pi s 117 1 (0 : Int32)) fun s1 =>
  fu_lt (fu_pi s1 117 0 (0 : Int32)) fun s2 =>
  Option.bind (f_X12_endings s2) fun r3 =>
  Option.bind (f_X12_sizeOf r3.1) fun r4 =>
  some (r4, r3.2)
/-! X12_endingSet -/
def f_X12_endingSet (s : fu_S) : Option (Int32 × fu_S) :=
  fu_lt (fu_pi s 117 1 (0 : Int32)) fun s1 =>
  fu_lt (fu_pi s1 117 0 (0 : Int32)) fun s2 =>
  Option.bind (f_X12_endings s2) fun r3 =>
  some (r3.1, r3.2)
/-! X12_couplesOf -/
def l_X12_couplesOf_25 : Nat → fu_S → Int32 → Int32 → Int32 → Int32 → Int32 → Int32 → Option (Int32 × fu_S)
  | 0, _, _, _, _, _, _, _ => none
  | n + 1, s, x1, x2, x3, x4, x5, x6 =>
    if x6 < (s.1 122 0) then
      Option.bind (f_X12_bearerBy s x5 x6) fun r4 =>
      Option.bind (
        if r4 = x1 then
          Option.bind (f_X12_spotBy s x5 x6) fun r7 =>
          if r7 = x2 then
            if x3 < 0 then
              if am_in ((16 : Int32) + x6) 1775 = true then
                fu_lt (fu_pi s 117 27 ((s.1 117 27) + (s.1 122 (Int32.toNatClampNeg ((16 : Int32) + x6))))) fun s11 =>
                some ((x4 + (1 : Int32)), s11)
              else none
            else
              if x5 = x3 then
                if am_in ((16 : Int32) + x6) 1775 = true then
                  fu_lt (fu_pi s 117 27 ((s.1 117 27) + (s.1 122 (Int32.toNatClampNeg ((16 : Int32) + x6))))) fun s14 =>
                  some ((x4 + (1 : Int32)), s14)
                else none
              else
                some (x4, s)
          else
            some (x4, s)
        else
          some (x4, s)
      ) fun (j5 : Int32 × fu_S) =>
      l_X12_couplesOf_25 n j5.2 x1 x2 x3 j5.1 x5 (x6 + (1 : Int32))
    else
      some (x4, s)
def l_X12_couplesOf_11 : Nat → fu_S → Int32 → Int32 → Int32 → Int32 → Int32 → Option (Int32 × fu_S)
  | 0, _, _, _, _, _, _ => none
  | n + 1, s, x1, x2, x3, x4, x5 =>
    if x5 < (s.1 122 1) then
      Option.bind (l_X12_couplesOf_25 fu_N s x1 x2 x3 x4 x5 (0 : Int32)) fun (r15 : Int32 × fu_S) =>
      l_X12_couplesOf_11 n r15.2 x1 x2 x3 r15.1 (x5 + (1 : Int32))
    else
      some (x4, s)
def f_X12_couplesOf (s : fu_S) (a1 : Int32) (a2 : Int32) (a3 : Int32) : Option (Int32 × fu_S) :=
  fu_lt (fu_pi s 117 27 (0 : Int32)) fun s1 =>
  Option.bind (l_X12_couplesOf_11 fu_N s1 a1 a2 a3 (0 : Int32) (0 : Int32)) fun (r16 : Int32 × fu_S) =>
  some (r16.1, r16.2)
/-! X12_couples -/
def f_X12_couples (s : fu_S) (a1 : Int32) (a2 : Int32) : Option (Int32 × fu_S) :=
  fu_lt (fu_pi s 117 1 (0 : Int32)) fun s1 =>
  fu_lt (fu_pi s1 117 0 (0 : Int32)) fun s2 =>
  Option.bind (
    if (f_X12_isPersonAt s2 (Int32.toInt64 a1)) = true then
      if (f_X12_isSpotAt a2) = true then
        Option.bind (f_X12_couplesOf s2 a1 a2 (-1 : Int32)) fun r6 =>
        some (r6.1, r6.2)
      else
        fu_lt (f_X12_refuse s2 (2 : Int32)) fun r7 =>
        some (r7.1, r7.2)
    else
      fu_lt (f_X12_refuse s2 (2 : Int32)) fun r8 =>
      some (r8.1, r8.2)
  ) fun (j3 : Int32 × fu_S) =>
  some (j3.1, j3.2)
/-! X12_whose -/
def f_X12_whose (s : fu_S) (a1 : Int32) (a2 : Int32) (a3 : Int32) : Option (Bool × fu_S) :=
  fu_lt (fu_pi s 117 1 (0 : Int32)) fun s1 =>
  fu_lt (fu_pi s1 117 0 (0 : Int32)) fun s2 =>
  if (f_X12_isPersonAt s2 (Int32.toInt64 a1)) = true then
    if (f_X12_isSpotAt a2) = true then
      if (f_X12_isPersonAt s2 (Int32.toInt64 a3)) = true then
        Option.bind (f_X12_couplesOf s2 a1 a2 (-1 : Int32)) fun r6 =>
        if (r6.2.1 117 27) = 0 then
          fu_lt (f_X12_no r6.2 (8 : Int32)) fun r8 =>
          some (r8.1, r8.2)
        else
          Option.bind (f_X12_couplesOf r6.2 a1 a2 a3) fun r9 =>
          Option.bind (f_X12_fraction r9.2 (Int32.toInt64 (r9.2.1 117 27)) (Int32.toInt64 (r6.2.1 117 27))) fun r10 =>
          some (r10.1, r10.2)
      else
        fu_lt (f_X12_no s2 (2 : Int32)) fun r11 =>
        some (r11.1, r11.2)
    else
      fu_lt (f_X12_no s2 (2 : Int32)) fun r12 =>
      some (r12.1, r12.2)
  else
    fu_lt (f_X12_no s2 (2 : Int32)) fun r13 =>
    some (r13.1, r13.2)
/-! X12_whyNoLaw -/
def l_X12_whyNoLaw_56 : Nat → fu_S → Int32 → Int32 → Int32 → Option (Int32 ⊕ (Unit))
  | 0, _, _, _, _ => none
  | n + 1, s, x1, x2, x3 =>
    if x3 < x2 then
      Option.bind (f_X12_numberOf s x1 ((3 : Int32) * x3)) fun r8 =>
      if (f_X12_isPersonAt s r8) = true then
        Option.bind (f_X12_numberOf s x1 (((3 : Int32) * x3) + (1 : Int32))) fun r10 =>
        if (f_X12_isPersonAt s r10) = true then
          Option.bind (f_X12_numberOf s x1 (((3 : Int32) * x3) + (2 : Int32))) fun r12 =>
          if (f_X12_isIn r12 (0 : Int64) (9 : Int64)) = true then
            l_X12_whyNoLaw_56 n s x1 x2 (x3 + (1 : Int32))
          else
            some (.inl (5 : Int32))
        else
          some (.inl (5 : Int32))
      else
        some (.inl (5 : Int32))
    else
      some (.inr ())
def f_X12_whyNoLaw (s : fu_S) (a1 : Int32) (a2 : Int32) : Option Int32 :=
  if (f_X12_isTray a1) = true then
    if am_in a1 4 = true then
      if (s.1 119 (Int32.toNatClampNeg a1)) < 0 then
        some (3 : Int32)
      else
        if am_in a1 4 = true then
          if (Int32.toInt64 (s.1 119 (Int32.toNatClampNeg a1))) < ((3 : Int64) * (Int32.toInt64 a2)) then
            some (4 : Int32)
          else
            if (f_X12_isIn (Int32.toInt64 a2) (0 : Int64) (15 : Int64)) = true then
              Option.bind (l_X12_whyNoLaw_56 fu_N s a1 a2 (0 : Int32)) (Sum.elim (fun (a : Int32) => some a) fun (r14 : Unit) =>
                some (0 : Int32)
              )
            else
              some (5 : Int32)
        else none
    else none
  else
    some (1 : Int32)
/-! X12_isLaw -/
def l_X12_isLaw_3 : Nat → fu_S → Int32 → Int32 → Int32 → Int32 → Int32 → Option (Bool ⊕ (Unit))
  | 0, _, _, _, _, _, _ => none
  | n + 1, s, x1, x2, x3, x4, x5 =>
    if x5 < x2 then
      Option.bind (f_X12_numberOf s x1 ((3 : Int32) * x5)) fun r2 =>
      if (s.1 122 1) = 0 then none else
      Option.bind (f_X12_numberOf s x1 (((3 : Int32) * x5) + (1 : Int32))) fun r4 =>
      if (Int32.toInt64 (((Int64.toInt32 r2) + x3) - ((Int64.toInt32 r2) + x3) / (s.1 122 1) * (s.1 122 1))) = r4 then
        Option.bind (f_X12_numberOf s x1 (((3 : Int32) * x5) + (2 : Int32))) fun r6 =>
        if (Int32.toInt64 ((x4 + (Int64.toInt32 r2)) - (x4 + (Int64.toInt32 r2)) / (10 : Int32) * (10 : Int32))) = r6 then
          l_X12_isLaw_3 n s x1 x2 x3 x4 (x5 + (1 : Int32))
        else
          some (.inl false)
      else
        some (.inl false)
    else
      some (.inr ())
def f_X12_isLaw (s : fu_S) (a1 : Int32) (a2 : Int32) (a3 : Int32) (a4 : Int32) : Option Bool :=
  Option.bind (l_X12_isLaw_3 fu_N s a1 a2 a3 a4 (0 : Int32)) (Sum.elim (fun (a : Bool) => some a) fun (r8 : Unit) =>
    some true
  )
/-! X12_laws -/
def l_X12_laws_39 : Nat → fu_S → Int32 → Int32 → Int32 → Int32 → Int32 → Option (Int32)
  | 0, _, _, _, _, _, _ => none
  | n + 1, s, x1, x2, x3, x4, x5 =>
    if x5 < (10 : Int32) then
      Option.bind (f_X12_isLaw s x1 x2 x4 x5) fun r7 =>
      Option.bind (
        if r7 = true then
          some true
        else
          some false
      ) fun (j8 : Bool) =>
      l_X12_laws_39 n s x1 x2 (x3 + (fu_b j8)) x4 (x5 + (1 : Int32))
    else
      some x3
def l_X12_laws_29 : Nat → fu_S → Int32 → Int32 → Int32 → Int32 → Option (Int32)
  | 0, _, _, _, _, _ => none
  | n + 1, s, x1, x2, x3, x4 =>
    if x4 ≤ (9 : Int32) then
      Option.bind (l_X12_laws_39 fu_N s x1 x2 x3 x4 (0 : Int32)) fun (r10 : Int32) =>
      l_X12_laws_29 n s x1 x2 r10 (x4 + (1 : Int32))
    else
      some x3
def f_X12_laws (s : fu_S) (a1 : Int32) (a2 : Int32) : Option (Int32 × fu_S) :=
  fu_lt (fu_pi s 117 1 (0 : Int32)) fun s1 =>
  Option.bind (f_X12_whyNoLaw s1 a1 a2) fun r2 =>
  fu_lt (fu_pi s1 117 0 r2) fun s3 =>
  if (s3.1 117 0) ≤ 0 then
    Option.bind (l_X12_laws_29 fu_N s3 a1 a2 (0 : Int32) (1 : Int32)) fun (r11 : Int32) =>
    some (r11, s3)
  else
    some ((-1 : Int32), s3)
/-! X12_lawOf -/
def l_X12_lawOf_59 : Nat → fu_S → Int32 → Int32 → Int32 → Int32 → Int32 → Option ((Int32 × fu_S) ⊕ (Unit))
  | 0, _, _, _, _, _, _ => none
  | n + 1, s, x1, x2, x3, x4, x5 =>
    if x5 < (10 : Int32) then
      Option.bind (f_X12_isLaw s x1 x2 x4 x5) fun r11 =>
      if r11 = true then
        Option.bind (
          if x3 = 0 then
            some x4
          else
            some x5
        ) fun (j13 : Int32) =>
        some (.inl (j13, s))
      else
        l_X12_lawOf_59 n s x1 x2 x3 x4 (x5 + (1 : Int32))
    else
      some (.inr ())
def l_X12_lawOf_49 : Nat → fu_S → Int32 → Int32 → Int32 → Int32 → Option ((Int32 × fu_S) ⊕ (Unit))
  | 0, _, _, _, _, _ => none
  | n + 1, s, x1, x2, x3, x4 =>
    if x4 ≤ (9 : Int32) then
      Option.bind (l_X12_lawOf_59 fu_N s x1 x2 x3 x4 (0 : Int32)) (Sum.elim (fun (a : (Int32 × fu_S)) => some (.inl a)) fun (r15 : Unit) =>
        l_X12_lawOf_49 n s x1 x2 x3 (x4 + (1 : Int32))
      )
    else
      some (.inr ())
def f_X12_lawOf (s : fu_S) (a1 : Int32) (a2 : Int32) (a3 : Int32) : Option (Int32 × fu_S) :=
  fu_lt (fu_pi s 117 1 (0 : Int32)) fun s1 =>
  Option.bind (f_X12_whyNoLaw s1 a1 a2) fun r2 =>
  fu_lt (fu_pi s1 117 0 r2) fun s3 =>
  Option.bind (
    if (s3.1 117 0) = 0 then
      if (f_X12_isIn (Int32.toInt64 a3) (0 : Int64) (1 : Int64)) = true then
        some s3
      else
        fu_lt (fu_pi s3 117 0 (5 : Int32)) fun s7 =>
        some s7
    else
      some s3
  ) fun (j4 : fu_S) =>
  if (j4.1 117 0) ≤ 0 then
    Option.bind (l_X12_lawOf_49 fu_N j4 a1 a2 a3 (1 : Int32)) (Sum.elim (fun (a : (Int32 × fu_S)) => some a) fun (r16 : Unit) =>
      fu_lt (f_X12_refuse j4 (8 : Int32)) fun r17 =>
      some (r17.1, r17.2)
    )
  else
    some ((-1 : Int32), j4)
/-! X12_laysHands -/
def l_X12_laysHands_2 : Nat → fu_S → Int32 → Int32 → Option (fu_S)
  | 0, _, _, _ => none
  | n + 1, s, x1, x2 =>
    if x2 < (7 : Int32) then
      Option.bind (
        if x2 = x1 then
          some (0 : Int32)
        else
          some (-1 : Int32)
      ) fun (j2 : Int32) =>
      if am_in x2 7 = true then
        fu_lt (fu_pi s 126 (Int32.toNatClampNeg x2) j2) fun s4 =>
        l_X12_laysHands_2 n s4 x1 (x2 + (1 : Int32))
      else none
    else
      some s
def l_X12_laysHands_56 : Nat → fu_S → Int32 → Int32 → Bool → Int32 → Option (Bool)
  | 0, _, _, _, _, _ => none
  | n + 1, s, x2, x3, x4, x5 =>
    if x5 < (s.1 122 0) then
      Option.bind (
        if x4 = true then
          some true
        else
          Option.bind (f_X12_bearerBy s x3 x5) fun r12 =>
          if am_in r12 7 = true then
            if (s.1 126 (Int32.toNatClampNeg r12)) = (x2 - (1 : Int32)) then
              some true
            else
              some false
          else none
      ) fun (j10 : Bool) =>
      l_X12_laysHands_56 n s x2 x3 j10 (x5 + (1 : Int32))
    else
      some x4
def l_X12_laysHands_40 : Nat → fu_S → Int32 → Int32 → Option (fu_S)
  | 0, _, _, _ => none
  | n + 1, s, x2, x3 =>
    if x3 < (s.1 122 1) then
      Option.bind (l_X12_laysHands_56 fu_N s x2 x3 false (0 : Int32)) fun (r15 : Bool) =>
      Option.bind (
        if r15 = true then
          if am_in x3 7 = true then
            if (s.1 126 (Int32.toNatClampNeg x3)) < 0 then
              if am_in x3 7 = true then
                fu_lt (fu_pi s 126 (Int32.toNatClampNeg x3) x2) fun s20 =>
                some s20
              else none
            else
              some s
          else none
        else
          some s
      ) fun (j16 : fu_S) =>
      l_X12_laysHands_40 n j16 x2 (x3 + (1 : Int32))
    else
      some s
def l_X12_laysHands_32 : Nat → fu_S → Int32 → Option (fu_S)
  | 0, _, _ => none
  | n + 1, s, x2 =>
    if x2 < (7 : Int32) then
      Option.bind (l_X12_laysHands_40 fu_N s x2 (0 : Int32)) fun (r22 : fu_S) =>
      l_X12_laysHands_32 n r22 (x2 + (1 : Int32))
    else
      some s
def f_X12_laysHands (s : fu_S) (a1 : Int32) : Option fu_S :=
  Option.bind (l_X12_laysHands_2 fu_N s a1 (0 : Int32)) fun (r6 : fu_S) =>
  Option.bind (l_X12_laysHands_32 fu_N r6 (1 : Int32)) fun (r23 : fu_S) =>
  some r23
/-! X12_hands -/
def f_X12_hands (s : fu_S) (a1 : Int32) (a2 : Int32) : Option (Int32 × fu_S) :=
  fu_lt (fu_pi s 117 1 (0 : Int32)) fun s1 =>
  fu_lt (fu_pi s1 117 0 (0 : Int32)) fun s2 =>
  if (f_X12_isPersonAt s2 (Int32.toInt64 a1)) = true then
    if (f_X12_isPersonAt s2 (Int32.toInt64 a2)) = true then
      Option.bind (f_X12_laysHands s2 a2) fun r5 =>
      if am_in a1 7 = true then
        Option.bind (
          if (r5.1 126 (Int32.toNatClampNeg a1)) < 0 then
            fu_lt (f_X12_refuse r5 (8 : Int32)) fun r9 =>
            some (r9.1, r9.2)
          else
            if am_in a1 7 = true then
              some ((r5.1 126 (Int32.toNatClampNeg a1)), r5)
            else none
        ) fun (j7 : Int32 × fu_S) =>
        some (j7.1, j7.2)
      else none
    else
      fu_lt (f_X12_refuse s2 (2 : Int32)) fun r11 =>
      some (r11.1, r11.2)
  else
    fu_lt (f_X12_refuse s2 (2 : Int32)) fun r12 =>
    some (r12.1, r12.2)
/-! X12_way -/
def l_X12_way_80 : Nat → fu_S → Int32 → Int32 → Int32 → Int32 → Int32 → Option (Int32)
  | 0, _, _, _, _, _, _ => none
  | n + 1, s, x3, x4, x5, x6, x7 =>
    if x7 < (s.1 122 0) then
      Option.bind (f_X12_bearerBy s x4 x7) fun r10 =>
      if am_in r10 7 = true then
        if am_in x4 7 = true then
          Option.bind (
            if (s.1 126 (Int32.toNatClampNeg r10)) = ((s.1 126 (Int32.toNatClampNeg x4)) - (1 : Int32)) then
              if x6 < 0 then
                some r10
              else
                if r10 < x6 then
                  some r10
                else
                  some x6
            else
              some x6
          ) fun (j13 : Int32) =>
          l_X12_way_80 n s x3 x4 x5 j13 (x7 + (1 : Int32))
        else none
      else none
    else
      some x6
def l_X12_way_68 : Nat → fu_S → Int32 → Int32 → Int32 → Option (Int32)
  | 0, _, _, _, _ => none
  | n + 1, s, x3, x4, x5 =>
    if x5 < x3 then
      Option.bind (l_X12_way_80 fu_N s x3 x4 x5 (-1 : Int32) (0 : Int32)) fun (r17 : Int32) =>
      l_X12_way_68 n s x3 r17 (x5 + (1 : Int32))
    else
      some x4
def f_X12_way (s : fu_S) (a1 : Int32) (a2 : Int32) (a3 : Int32) : Option (Int32 × fu_S) :=
  fu_lt (fu_pi s 117 1 (0 : Int32)) fun s1 =>
  fu_lt (fu_pi s1 117 0 (0 : Int32)) fun s2 =>
  if (f_X12_isPersonAt s2 (Int32.toInt64 a1)) = true then
    if (f_X12_isPersonAt s2 (Int32.toInt64 a2)) = true then
      Option.bind (f_X12_laysHands s2 a2) fun r5 =>
      if am_in a1 7 = true then
        if (f_X12_isIn (Int32.toInt64 a3) (0 : Int64) (Int32.toInt64 (r5.1 126 (Int32.toNatClampNeg a1)))) = true then
          Option.bind (l_X12_way_68 fu_N r5 a3 a1 (0 : Int32)) fun (r18 : Int32) =>
          some (r18, r5)
        else
          fu_lt (f_X12_refuse r5 (8 : Int32)) fun r19 =>
          some (r19.1, r19.2)
      else none
    else
      fu_lt (f_X12_refuse s2 (2 : Int32)) fun r20 =>
      some (r20.1, r20.2)
  else
    fu_lt (f_X12_refuse s2 (2 : Int32)) fun r21 =>
    some (r21.1, r21.2)
/-! X12_signs -/
def l_X12_signs_39 : Nat → fu_S → Int32 → Int32 → Int32 → Int32 → Option (Int32)
  | 0, _, _, _, _, _ => none
  | n + 1, s, x1, x2, x3, x4 =>
    if x4 < (s.1 122 0) then
      Option.bind (f_X12_bearerBy s x1 x4) fun r6 =>
      Option.bind (
        if r6 = x2 then
          Option.bind (f_X12_spotBy s x1 x4) fun r9 =>
          some ((1 : Int32) <<< (r9 &&& 31))
        else
          some (0 : Int32)
      ) fun (j7 : Int32) =>
      l_X12_signs_39 n s x1 x2 (x3 ||| j7) (x4 + (1 : Int32))
    else
      some x3
def f_X12_signs (s : fu_S) (a1 : Int32) (a2 : Int32) : Option (Int32 × fu_S) :=
  fu_lt (fu_pi s 117 1 (0 : Int32)) fun s1 =>
  fu_lt (fu_pi s1 117 0 (0 : Int32)) fun s2 =>
  if (f_X12_isPersonAt s2 (Int32.toInt64 a1)) = true then
    if (f_X12_isPersonAt s2 (Int32.toInt64 a2)) = true then
      Option.bind (l_X12_signs_39 fu_N s2 a1 a2 (0 : Int32) (0 : Int32)) fun (r10 : Int32) =>
      Option.bind (f_X12_sizeOf r10) fun r11 =>
      some (r11, s2)
    else
      fu_lt (f_X12_refuse s2 (2 : Int32)) fun r12 =>
      some (r12.1, r12.2)
  else
    fu_lt (f_X12_refuse s2 (2 : Int32)) fun r13 =>
    some (r13.1, r13.2)
/-! X12_walkBy -/
def l_X12_walkBy_9 : Nat → fu_S → Int32 → Int32 → Int32 → Int32 → Int32 → Option (Int32 × Int32)
  | 0, _, _, _, _, _, _ => none
  | n + 1, s, x1, x2, x3, x4, x5 =>
    if x5 < (s.1 122 2) then
      Option.bind (
        if (f_X12_has x2 x5) = true then
          Option.bind (f_X12_bearerOf s x5) fun r4 =>
          if am_in ((21 : Int32) + r4) 1775 = true then
            Option.bind (f_X12_bearerOf s x5) fun r6 =>
            if am_in ((21 : Int32) + r6) 1775 = true then
              some ((fu_mn x3 (s.1 122 (Int32.toNatClampNeg ((21 : Int32) + r4)))), (fu_mx x4 (s.1 122 (Int32.toNatClampNeg ((21 : Int32) + r6)))))
            else none
          else none
        else
          some (x3, x4)
      ) fun (j2 : Int32 × Int32) =>
      l_X12_walkBy_9 n s x1 x2 j2.1 j2.2 (x5 + (1 : Int32))
    else
      some (x3, x4)
def f_X12_walkBy (s : fu_S) (a1 : Int32) (a2 : Int32) : Option Int32 :=
  Option.bind (l_X12_walkBy_9 fu_N s a1 a2 (60 : Int32) (-1 : Int32) (0 : Int32)) fun (r8 : Int32 × Int32) =>
  Option.bind (
    if r8.2 < 0 then
      some (0 : Int32)
    else
      some ((r8.2 - r8.1) + (fu_mn (fu_ab (a1 - r8.1)) (fu_ab (a1 - r8.2))))
  ) fun (j9 : Int32) =>
  some j9
/-! X12_isWalk -/
def f_X12_isWalk (s : fu_S) (a1 : Int32) (a2 : Int32) : Bool :=
  fu_lt (
    if (f_X12_isIn (Int32.toInt64 a1) (0 : Int64) (59 : Int64)) = true then
      if (f_X12_isIn (Int32.toInt64 a2) (0 : Int64) (Int32.toInt64 (((1 : Int32) <<< ((s.1 122 2) &&& 31)) - (1 : Int32)))) = true then
        true
      else
        false
    else
      false
  ) fun (j1 : Bool) =>
  j1
/-! X12_walk -/
def f_X12_walk (s : fu_S) (a1 : Int32) (a2 : Int32) : Option (Int32 × fu_S) :=
  fu_lt (fu_pi s 117 1 (0 : Int32)) fun s1 =>
  fu_lt (fu_pi s1 117 0 (0 : Int32)) fun s2 =>
  Option.bind (
    if (f_X12_isWalk s2 a1 a2) = true then
      Option.bind (f_X12_walkBy s2 a1 a2) fun r5 =>
      some (r5, s2)
    else
      fu_lt (f_X12_refuse s2 (5 : Int32)) fun r6 =>
      some (r6.1, r6.2)
  ) fun (j3 : Int32 × fu_S) =>
  some (j3.1, j3.2)
/-! X12_factorial -/
def l_X12_factorial_4 : Nat → Int32 → Int64 → Int32 → Option (Int64)
  | 0, _, _, _ => none
  | n + 1, x0, x1, x3 =>
    if x3 ≤ x0 then
      l_X12_factorial_4 n x0 (x1 * (Int32.toInt64 x3)) (x3 + (1 : Int32))
    else
      some x1
def f_X12_factorial (a0 : Int32) : Option Int64 :=
  Option.bind (l_X12_factorial_4 fu_N a0 (1 : Int64) (2 : Int32)) fun (r2 : Int64) =>
  some r2
/-! X12_share -/
def l_X12_share_66 : Nat → fu_S → Int32 → Int32 → Int32 → Int32 → Int64 → Int32 → Option (Int64)
  | 0, _, _, _, _, _, _, _ => none
  | n + 1, s, x1, x2, x3, x4, x5, x7 =>
    if x7 ≤ x2 then
      Option.bind (
        if (x7 &&& (x2 ^^^ (-1 : Int32))) = 0 then
          if (f_X12_has x7 x3) = true then
            some x5
          else
            Option.bind (f_X12_sizeOf x7) fun r11 =>
            Option.bind (f_X12_factorial r11) fun r12 =>
            Option.bind (f_X12_factorial ((x4 - (1 : Int32)) - r11)) fun r13 =>
            Option.bind (f_X12_walkBy s x1 (x7 ||| ((1 : Int32) <<< (x3 &&& 31)))) fun r14 =>
            Option.bind (f_X12_walkBy s x1 x7) fun r15 =>
            some (x5 + ((r12 * r13) * (Int32.toInt64 (r14 - r15))))
        else
          some x5
      ) fun (j8 : Int64) =>
      l_X12_share_66 n s x1 x2 x3 x4 j8 (x7 + (1 : Int32))
    else
      some x5
def f_X12_share (s : fu_S) (a1 : Int32) (a2 : Int32) (a3 : Int32) : Option (Bool × fu_S) :=
  fu_lt (fu_pi s 117 1 (0 : Int32)) fun s1 =>
  fu_lt (fu_pi s1 117 0 (0 : Int32)) fun s2 =>
  if (f_X12_isThingAt s2 a3) = true then
    if (f_X12_isWalk s2 a1 a2) = true then
      if (f_X12_has a2 a3) = true then
        Option.bind (f_X12_sizeOf a2) fun r6 =>
        Option.bind (l_X12_share_66 fu_N s2 a1 a2 a3 r6 (0 : Int64) (0 : Int32)) fun (r16 : Int64) =>
        Option.bind (f_X12_factorial r6) fun r17 =>
        Option.bind (f_X12_fraction s2 r16 r17) fun r18 =>
        some (r18.1, r18.2)
      else
        fu_lt (f_X12_no s2 (8 : Int32)) fun r19 =>
        some (r19.1, r19.2)
    else
      fu_lt (f_X12_no s2 (5 : Int32)) fun r20 =>
      some (r20.1, r20.2)
  else
    fu_lt (f_X12_no s2 (2 : Int32)) fun r21 =>
    some (r21.1, r21.2)
/-! X12_plays -/
def l_X12_plays_42 (K : fu_S → Int32 → Int32 → Int32 → Int32 → Int32 → Option (Int32 × fu_S)) : Nat → fu_S → Int32 → Int32 → Int32 → Int32 → Int32 → Bool → Int32 → Int32 → Int32 → Int32 → Option (Int32 × Int32 × fu_S)
  | 0, _, _, _, _, _, _, _, _, _, _, _ => none
  | n + 1, s, x1, x2, x3, x4, x5, x6, x7, x8, x9, x10 =>
    if x10 ≤ (s.1 122 2) then
      Option.bind (
        if x10 = (s.1 122 2) then
          some true
        else
          some false
      ) fun (j7 : Bool) =>
      Option.bind (
        if j7 = true then
          Option.bind (
            if j7 = true then
              some (0 : Int32)
            else
              if x6 = true then
                if am_in ((51 : Int32) + x10) 1775 = true then
                  some (s.1 122 (Int32.toNatClampNeg ((51 : Int32) + x10)))
                else none
              else
                if am_in ((51 : Int32) + x10) 1775 = true then
                  some (-(s.1 122 (Int32.toNatClampNeg ((51 : Int32) + x10))))
                else none
          ) fun (j11 : Int32) =>
          Option.bind (
            if j7 = true then
              some x5
            else
              some (x5 ||| ((1 : Int32) <<< (x10 &&& 31)))
          ) fun (j16 : Int32) =>
          Option.bind (K s x1 x2 (x3 + (1 : Int32)) x4 j16) fun r18 =>
          if x9 < 0 then
            some ((j11 + r18.1), x10, r18.2)
          else
            if x6 = true then
              if (j11 + r18.1) ≤ x8 then
                some (x8, x9, r18.2)
              else
                some ((j11 + r18.1), x10, r18.2)
            else
              if (j11 + r18.1) < x8 then
                some ((j11 + r18.1), x10, r18.2)
              else
                some (x8, x9, r18.2)
        else
          if (f_X12_has x5 x10) = true then
            some (x8, x9, s)
          else
            Option.bind (f_X12_isUp s x10) fun r24 =>
            if r24 = true then
              Option.bind (f_X12_couldScratch s x7 x10) fun r26 =>
              if r26 = true then
                Option.bind (
                  if j7 = true then
                    some (0 : Int32)
                  else
                    if x6 = true then
                      if am_in ((51 : Int32) + x10) 1775 = true then
                        some (s.1 122 (Int32.toNatClampNeg ((51 : Int32) + x10)))
                      else none
                    else
                      if am_in ((51 : Int32) + x10) 1775 = true then
                        some (-(s.1 122 (Int32.toNatClampNeg ((51 : Int32) + x10))))
                      else none
                ) fun (j28 : Int32) =>
                Option.bind (
                  if j7 = true then
                    some x5
                  else
                    some (x5 ||| ((1 : Int32) <<< (x10 &&& 31)))
                ) fun (j33 : Int32) =>
                Option.bind (K s x1 x2 (x3 + (1 : Int32)) x4 j33) fun r35 =>
                if x9 < 0 then
                  some ((j28 + r35.1), x10, r35.2)
                else
                  if x6 = true then
                    if (j28 + r35.1) ≤ x8 then
                      some (x8, x9, r35.2)
                    else
                      some ((j28 + r35.1), x10, r35.2)
                  else
                    if (j28 + r35.1) < x8 then
                      some ((j28 + r35.1), x10, r35.2)
                    else
                      some (x8, x9, r35.2)
              else
                some (x8, x9, s)
            else
              some (x8, x9, s)
      ) fun (j9 : Int32 × Int32 × fu_S) =>
      l_X12_plays_42 K n j9.2.2 x1 x2 x3 x4 x5 x6 x7 j9.1 j9.2.1 (x10 + (1 : Int32))
    else
      some (x8, x9, s)
def fb_X12_plays (K : fu_S → Int32 → Int32 → Int32 → Int32 → Int32 → Option (Int32 × fu_S)) (s : fu_S) (a1 : Int32) (a2 : Int32) (a3 : Int32) (a4 : Int32) (a5 : Int32) : Option (Int32 × fu_S) :=
  if a3 = a4 then
    some ((0 : Int32), s)
  else
    Option.bind (
      if (a3 - a3 / (2 : Int32) * (2 : Int32)) = 0 then
        some true
      else
        some false
    ) fun (j2 : Bool) =>
    Option.bind (
      if j2 = true then
        some a1
      else
        some a2
    ) fun (j4 : Int32) =>
    Option.bind (l_X12_plays_42 K fu_N s a1 a2 a3 a4 a5 j2 j4 (0 : Int32) (-1 : Int32) (0 : Int32)) fun (r40 : Int32 × Int32 × fu_S) =>
    Option.bind (
      if a3 = 0 then
        fu_lt (fu_pi r40.2.2 117 29 r40.2.1) fun s43 =>
        some s43
      else
        some r40.2.2
    ) fun (j41 : fu_S) =>
    some (r40.1, j41)
def f_X12_plays : Nat → fu_S → Int32 → Int32 → Int32 → Int32 → Int32 → Option (Int32 × fu_S)
  | 0 => fun _ _ _ _ _ _ => none
  | n + 1 => fb_X12_plays (f_X12_plays n)
/-! X12_whyNoGame -/
def f_X12_whyNoGame (s : fu_S) (a1 : Int32) (a2 : Int32) (a3 : Int32) (a4 : Int32) : Int32 :=
  if (f_X12_isPersonAt s (Int32.toInt64 a1)) = true then
    if (f_X12_isPersonAt s (Int32.toInt64 a2)) = true then
      fu_lt (
        if a1 = a2 then
          (5 : Int32)
        else
          if (f_X12_isIn (Int32.toInt64 a3) (Int32.toInt64 a4) (4 : Int64)) = true then
            (0 : Int32)
          else
            (5 : Int32)
      ) fun (j3 : Int32) =>
      j3
    else
      (2 : Int32)
  else
    (2 : Int32)
/-! X12_game -/
def f_X12_game (s : fu_S) (a1 : Int32) (a2 : Int32) (a3 : Int32) : Option (Int32 × fu_S) :=
  fu_lt (fu_pi s 117 1 (0 : Int32)) fun s1 =>
  fu_lt (fu_pi s1 117 0 (f_X12_whyNoGame s1 a1 a2 a3 (0 : Int32))) fun s2 =>
  Option.bind (
    if (s2.1 117 0) ≤ 0 then
      Option.bind (f_X12_plays 16 s2 a1 a2 (0 : Int32) a3 (0 : Int32)) fun r5 =>
      some (r5.1, r5.2)
    else
      some ((-1 : Int32), s2)
  ) fun (j3 : Int32 × fu_S) =>
  some (j3.1, j3.2)
/-! X12_moveOf -/
def f_X12_moveOf (s : fu_S) (a1 : Int32) (a2 : Int32) (a3 : Int32) : Option (Int32 × fu_S) :=
  fu_lt (fu_pi s 117 1 (0 : Int32)) fun s1 =>
  fu_lt (fu_pi s1 117 0 (f_X12_whyNoGame s1 a1 a2 a3 (1 : Int32))) fun s2 =>
  if (s2.1 117 0) ≤ 0 then
    Option.bind (f_X12_plays 16 s2 a1 a2 (0 : Int32) a3 (0 : Int32)) fun r4 =>
    Option.bind (
      if (r4.2.1 117 29) = (r4.2.1 122 2) then
        fu_lt (f_X12_refuse r4.2 (8 : Int32)) fun r7 =>
        some (r7.1, r7.2)
      else
        some ((r4.2.1 117 29), r4.2)
    ) fun (j5 : Int32 × fu_S) =>
    some (j5.1, j5.2)
  else
    some ((-1 : Int32), s2)
/-! X12_tongue -/
def l_X12_tongue_36 : Nat → fu_S → Int32 → Int64 → Int64 → Int32 → Option (Int64 × Int64)
  | 0, _, _, _, _, _ => none
  | n + 1, s, x1, x2, x4, x6 =>
    if x6 < x1 then
      l_X12_tongue_36 n s x1 (x2 * (Int32.toInt64 ((16 : Int32) - (s.1 122 3)))) (x4 * (16 : Int64)) (x6 + (1 : Int32))
    else
      some (x2, x4)
def f_X12_tongue (s : fu_S) (a1 : Int32) : Option (Bool × fu_S) :=
  fu_lt (fu_pi s 117 1 (0 : Int32)) fun s1 =>
  fu_lt (fu_pi s1 117 0 (0 : Int32)) fun s2 =>
  if (f_X12_isIn (Int32.toInt64 a1) (0 : Int64) (12 : Int64)) = true then
    Option.bind (l_X12_tongue_36 fu_N s2 a1 (1 : Int64) (1 : Int64) (0 : Int32)) fun (r5 : Int64 × Int64) =>
    Option.bind (f_X12_fraction s2 (r5.2 - r5.1) r5.2) fun r6 =>
    some (r6.1, r6.2)
  else
    fu_lt (f_X12_no s2 (5 : Int32)) fun r7 =>
    some (r7.1, r7.2)
/-! X12_draw -/
def f_X12_draw (s : fu_S) (a1 : Int32) : Option (Int32 × fu_S) :=
  fu_lt (fu_pi s 117 33 ((((s.1 117 33) * (2971 : Int32)) + (10957 : Int32)) - (((s.1 117 33) * (2971 : Int32)) + (10957 : Int32)) / (65536 : Int32) * (65536 : Int32))) fun s1 =>
  if a1 = 0 then none else
  some ((((s1.1 117 33) / (8 : Int32)) - ((s1.1 117 33) / (8 : Int32)) / a1 * a1), s1)
/-! X12_waits -/
def f_X12_waits (s : fu_S) (a1 : Int32) : Option (Bool × fu_S) :=
  if ((s.1 122 5) + a1) ≤ (9999 : Int32) then
    fu_lt (fu_pi s 122 5 ((s.1 122 5) + a1)) fun s2 =>
    some (true, s2)
  else
    some (false, s)
/-! X12_isLost -/
def f_X12_isLost (s : fu_S) (a1 : Int32) (a2 : Int32) : Option (Bool × fu_S) :=
  if (s.1 122 2) = (8 : Int32) then
    some (false, s)
  else
    Option.bind (f_X12_loses s (0 : Int32) a1 a2 (1 : Int32)) fun r2 =>
    fu_lt (fu_pi r2 117 37 ((r2.1 117 37) + (1 : Int32))) fun s3 =>
    some (true, s3)
/-! X12_isDone -/
def f_X12_isDone (s : fu_S) (a1 : Int32) (a2 : Int32) : Option (Bool × fu_S) :=
  Option.bind (f_X12_scratches s a1 a2) fun r1 =>
  Option.bind (
    if r1.1 = true then
      some true
    else
      some false
  ) fun (j2 : Bool) =>
  fu_lt (fu_pi r1.2 117 38 ((r1.2.1 117 38) + (fu_b j2))) fun s4 =>
  some (r1.1, s4)
/-! X12_isAny -/
def f_X12_isAny (s : fu_S) : Option (Bool × fu_S) :=
  if (s.1 122 1) = 0 then
    some (false, s)
  else
    if (s.1 122 2) = 0 then
      some (false, s)
    else
      Option.bind (f_X12_draw s (s.1 122 1)) fun r3 =>
      Option.bind (f_X12_draw r3.2 (r3.2.1 122 2)) fun r4 =>
      Option.bind (f_X12_draw r4.2 (16 : Int32)) fun r5 =>
      Option.bind (
        if r5.1 < (r5.2.1 122 3) then
          Option.bind (f_X12_isDone r5.2 r3.1 r4.1) fun r8 =>
          some (r8.1, r8.2)
        else
          Option.bind (f_X12_waits r5.2 (1 : Int32)) fun r9 =>
          some (r9.1, r9.2)
      ) fun (j6 : Bool × fu_S) =>
      some (j6.1, j6.2)
/-! X12_does -/
def f_X12_does (s : fu_S) (a1 : Int32) : Option (Bool × fu_S) :=
  if am_in a1 1775 = true then
    if am_in (a1 + (1 : Int32)) 1775 = true then
      if (s.1 122 (Int32.toNatClampNeg a1)) = 0 then
        Option.bind (f_X12_waits s (s.1 122 (Int32.toNatClampNeg (a1 + (1 : Int32))))) fun r4 =>
        some (r4.1, r4.2)
      else
        if (s.1 122 (Int32.toNatClampNeg a1)) = (1 : Int32) then
          if am_in (a1 + (2 : Int32)) 1775 = true then
            Option.bind (f_X12_isLost s (s.1 122 (Int32.toNatClampNeg (a1 + (1 : Int32)))) (s.1 122 (Int32.toNatClampNeg (a1 + (2 : Int32))))) fun r7 =>
            some (r7.1, r7.2)
          else none
        else
          Option.bind (
            if (s.1 122 (Int32.toNatClampNeg a1)) = (2 : Int32) then
              if am_in (a1 + (2 : Int32)) 1775 = true then
                Option.bind (f_X12_isDone s (s.1 122 (Int32.toNatClampNeg (a1 + (1 : Int32)))) (s.1 122 (Int32.toNatClampNeg (a1 + (2 : Int32))))) fun r11 =>
                some (r11.1, r11.2)
              else none
            else
              Option.bind (f_X12_isAny s) fun r12 =>
              some (r12.1, r12.2)
          ) fun (j8 : Bool × fu_S) =>
          some (j8.1, j8.2)
    else none
  else none
/-! X12_holds -/
def f_X12_holds (s : fu_S) (a1 : Int32) : Option Bool :=
  if am_in (a1 + (5 : Int32)) 1775 = true then
    if am_in (a1 + (1 : Int32)) 1775 = true then
      if (s.1 122 (Int32.toNatClampNeg (a1 + (5 : Int32)))) < (2 : Int32) then
        Option.bind (
          if (f_X12_isThingAt s (s.1 122 (Int32.toNatClampNeg (a1 + (1 : Int32))))) = true then
            if (s.1 122 (Int32.toNatClampNeg (a1 + (5 : Int32)))) = 0 then
              Option.bind (f_X12_isFound s (s.1 122 (Int32.toNatClampNeg (a1 + (1 : Int32))))) fun r7 =>
              if r7 = true then
                some true
              else
                some false
            else
              Option.bind (f_X12_isUp s (s.1 122 (Int32.toNatClampNeg (a1 + (1 : Int32))))) fun r9 =>
              if r9 = true then
                some true
              else
                some false
          else
            some false
        ) fun (j4 : Bool) =>
        some j4
      else
        if am_in (a1 + (7 : Int32)) 1775 = true then
          Option.bind (
            if (s.1 122 (Int32.toNatClampNeg (a1 + (7 : Int32)))) = (60 : Int32) then
              if am_in (a1 + (6 : Int32)) 1775 = true then
                if (s.1 122 5) < (s.1 122 (Int32.toNatClampNeg (a1 + (6 : Int32)))) then
                  some true
                else
                  some false
              else none
            else
              if am_in (a1 + (7 : Int32)) 1775 = true then
                if (s.1 122 (Int32.toNatClampNeg (a1 + (7 : Int32)))) = (62 : Int32) then
                  if am_in (a1 + (6 : Int32)) 1775 = true then
                    if (s.1 122 5) ≤ (s.1 122 (Int32.toNatClampNeg (a1 + (6 : Int32)))) then
                      some false
                    else
                      some true
                  else none
                else
                  if am_in (a1 + (6 : Int32)) 1775 = true then
                    if (s.1 122 5) = (s.1 122 (Int32.toNatClampNeg (a1 + (6 : Int32)))) then
                      some true
                    else
                      some false
                  else none
              else none
          ) fun (j12 : Bool) =>
          some j12
        else none
    else none
  else none
/-! X12_doOne -/
def l_X12_doOne_116 (K : fu_S → Int32 → Int32 → Option fu_S) : Nat → fu_S → Int32 → Int32 → Int32 → Option (fu_S)
  | 0, _, _, _, _ => none
  | n + 1, s, x1, x2, x4 =>
    if am_in (x2 + (1 : Int32)) 1775 = true then
      if x4 < (s.1 122 (Int32.toNatClampNeg (x2 + (1 : Int32)))) then
        if (fu_tb (s.1 117 32)) = true then
          some s
        else
          if am_in (x2 + (8 : Int32)) 1775 = true then
            Option.bind (K s (x1 + (1 : Int32)) (s.1 122 (Int32.toNatClampNeg (x2 + (8 : Int32))))) fun r22 =>
            l_X12_doOne_116 K n r22 x1 x2 (x4 + (1 : Int32))
          else none
      else
        some s
    else none
def f_X12_doOne (K : fu_S → Int32 → Int32 → Option fu_S) (s : fu_S) (a1 : Int32) : Option fu_S :=
  if (s.1 117 34) = (300 : Int32) then
    fu_lt (fu_pi s 117 32 (fu_b true)) fun s2 =>
    fu_lt (fu_pi s2 117 39 (1 : Int32)) fun s3 =>
    some s3
  else
    fu_lt (fu_pi s 117 34 ((s.1 117 34) + (1 : Int32))) fun s4 =>
    if am_in ((85 : Int32) + ((9 : Int32) * a1)) 1775 = true then
      Option.bind (
        if (s4.1 122 (Int32.toNatClampNeg ((85 : Int32) + ((9 : Int32) * a1)))) < (4 : Int32) then
          Option.bind (f_X12_does s4 ((85 : Int32) + ((9 : Int32) * a1))) fun r8 =>
          Option.bind (
            if r8.1 = true then
              some false
            else
              some true
          ) fun (j9 : Bool) =>
          fu_lt (fu_pi r8.2 117 35 ((s4.1 117 35) + (fu_b j9))) fun s11 =>
          some s11
        else
          if (s4.1 122 (Int32.toNatClampNeg ((85 : Int32) + ((9 : Int32) * a1)))) = (4 : Int32) then
            Option.bind (f_X12_holds s4 ((85 : Int32) + ((9 : Int32) * a1))) fun r13 =>
            if r13 = true then
              if am_in (((85 : Int32) + ((9 : Int32) * a1)) + (8 : Int32)) 1775 = true then
                Option.bind (K s4 (a1 + (1 : Int32)) (s4.1 122 (Int32.toNatClampNeg (((85 : Int32) + ((9 : Int32) * a1)) + (8 : Int32))))) fun r16 =>
                some r16
              else none
            else
              if (s4.1 122 (Int32.toNatClampNeg ((85 : Int32) + ((9 : Int32) * a1)))) = (5 : Int32) then
                Option.bind (l_X12_doOne_116 K fu_N s4 a1 ((85 : Int32) + ((9 : Int32) * a1)) (0 : Int32)) fun (r23 : fu_S) =>
                some r23
              else
                if (s4.1 122 (Int32.toNatClampNeg ((85 : Int32) + ((9 : Int32) * a1)))) ≤ (5 : Int32) then
                  some s4
                else
                  fu_lt (fu_pi s4 117 32 (fu_b true)) fun s25 =>
                  some s25
          else
            if (s4.1 122 (Int32.toNatClampNeg ((85 : Int32) + ((9 : Int32) * a1)))) = (5 : Int32) then
              Option.bind (l_X12_doOne_116 K fu_N s4 a1 ((85 : Int32) + ((9 : Int32) * a1)) (0 : Int32)) fun (r32 : fu_S) =>
              some r32
            else
              if (s4.1 122 (Int32.toNatClampNeg ((85 : Int32) + ((9 : Int32) * a1)))) ≤ (5 : Int32) then
                some s4
              else
                fu_lt (fu_pi s4 117 32 (fu_b true)) fun s34 =>
                some s34
      ) fun (j6 : fu_S) =>
      some j6
    else none
/-! X12_doAll -/
def l_X12_doAll_2 (K : fu_S → Int32 → Int32 → Option fu_S) : Nat → fu_S → Int32 → Int32 → Option (fu_S)
  | 0, _, _, _ => none
  | n + 1, s, x2, x3 =>
    if x3 < x2 then
      if (fu_tb (s.1 117 32)) = true then
        some s
      else
        Option.bind (f_X12_doOne K s x3) fun r3 =>
        if am_in (((85 : Int32) + ((9 : Int32) * x3)) + (8 : Int32)) 1775 = true then
          l_X12_doAll_2 K n r3 x2 (r3.1 122 (Int32.toNatClampNeg (((85 : Int32) + ((9 : Int32) * x3)) + (8 : Int32))))
        else none
    else
      some s
def fb_X12_doAll (K : fu_S → Int32 → Int32 → Option fu_S) (s : fu_S) (a1 : Int32) (a2 : Int32) : Option fu_S :=
  Option.bind (l_X12_doAll_2 K fu_N s a2 a1) fun (r5 : fu_S) =>
  some r5
def f_X12_doAll : Nat → fu_S → Int32 → Int32 → Option fu_S
  | 0 => fun _ _ _ => none
  | n + 1 => fb_X12_doAll (f_X12_doAll n)
/-! X12_runsDays -/
def f_X12_runsDays (s : fu_S) (a1 : Int32) : Option fu_S :=
  fu_lt (fu_pi s 117 33 a1) fun s1 =>
  fu_lt (fu_pi s1 117 34 (0 : Int32)) fun s2 =>
  fu_lt (fu_pi s2 117 35 (0 : Int32)) fun s3 =>
  fu_lt (fu_pi s3 117 36 (s3.1 122 5)) fun s4 =>
  fu_lt (fu_pi s4 117 37 (0 : Int32)) fun s5 =>
  fu_lt (fu_pi s5 117 38 (0 : Int32)) fun s6 =>
  fu_lt (fu_pi s6 117 39 (0 : Int32)) fun s7 =>
  fu_lt (fu_pi s7 117 32 (fu_b false)) fun s8 =>
  Option.bind (f_X12_doAll 16 s8 (0 : Int32) (s8.1 122 84)) fun r9 =>
  some r9
/-! X12_live -/
def f_X12_live (s : fu_S) (a1 : Int32) : Option (Int32 × fu_S) :=
  fu_lt (fu_pi s 117 1 (0 : Int32)) fun s1 =>
  fu_lt (fu_pi s1 117 0 (0 : Int32)) fun s2 =>
  if (f_X12_isIn (Int32.toInt64 a1) (0 : Int64) (9999 : Int64)) = true then
    if (s2.1 122 83) = 0 then
      fu_lt (f_X12_refuse s2 (8 : Int32)) fun r5 =>
      some (r5.1, r5.2)
    else
      Option.bind (f_X12_runsDays s2 a1) fun r6 =>
      fu_lt (fu_pi r6 127 0 (r6.1 117 35)) fun s7 =>
      fu_lt (fu_pi s7 127 1 ((s7.1 122 5) - (s7.1 117 36))) fun s8 =>
      fu_lt (fu_pi s8 127 2 (s8.1 117 37)) fun s9 =>
      fu_lt (fu_pi s9 127 3 (s9.1 117 38)) fun s10 =>
      fu_lt (fu_pi s10 127 4 (s10.1 117 39)) fun s11 =>
      fu_lt (fu_pi s11 117 31 (fu_b true)) fun s12 =>
      some ((s12.1 117 34), s12)
  else
    fu_lt (f_X12_refuse s2 (5 : Int32)) fun r13 =>
    some (r13.1, r13.2)
/-! X12_lived -/
def f_X12_lived (s : fu_S) (a1 : Int32) : Option (Int32 × fu_S) :=
  fu_lt (fu_pi s 117 1 (0 : Int32)) fun s1 =>
  fu_lt (fu_pi s1 117 0 (0 : Int32)) fun s2 =>
  if (f_X12_isIn (Int32.toInt64 a1) (0 : Int64) (4 : Int64)) = true then
    Option.bind (
      if (fu_tb (s2.1 117 31)) = true then
        if am_in a1 5 = true then
          some ((s2.1 127 (Int32.toNatClampNeg a1)), s2)
        else none
      else
        fu_lt (f_X12_refuse s2 (8 : Int32)) fun r7 =>
        some (r7.1, r7.2)
    ) fun (j4 : Int32 × fu_S) =>
    some (j4.1, j4.2)
  else
    fu_lt (f_X12_refuse s2 (5 : Int32)) fun r8 =>
    some (r8.1, r8.2)
/-! X12_mean -/
def l_X12_mean_62 : Nat → fu_S → Int32 → Int32 → Int32 → Option (fu_S)
  | 0, _, _, _, _ => none
  | n + 1, s, x1, x2, x3 =>
    if x3 < (83 : Int32) then
      if am_in x3 1775 = true then
        if am_in x3 83 = true then
          fu_lt (fu_pi s 123 (Int32.toNatClampNeg x3) (s.1 122 (Int32.toNatClampNeg x3))) fun s9 =>
          l_X12_mean_62 n s9 x1 x2 (x3 + (1 : Int32))
        else none
      else none
    else
      some s
def l_X12_mean_120 : Nat → fu_S → Int32 → Int32 → Int64 → Int32 → Int32 → Option (fu_S)
  | 0, _, _, _, _, _, _ => none
  | n + 1, s, x1, x2, x3, x5, x6 =>
    if x6 < (83 : Int32) then
      if am_in x6 83 = true then
        if am_in x6 1775 = true then
          fu_lt (fu_pi s 122 (Int32.toNatClampNeg x6) (s.1 123 (Int32.toNatClampNeg x6))) fun s18 =>
          l_X12_mean_120 n s18 x1 x2 x3 x5 (x6 + (1 : Int32))
        else none
      else none
    else
      some s
def l_X12_mean_91 : Nat → fu_S → Int32 → Int32 → Int64 → Int32 → Option (Int64 × fu_S)
  | 0, _, _, _, _, _ => none
  | n + 1, s, x1, x2, x3, x5 =>
    if x5 < x2 then
      Option.bind (f_X12_runsDays s (x1 + x5)) fun r13 =>
      Option.bind (f_X12_things r13 (2 : Int32)) fun r14 =>
      Option.bind (f_X12_sizeOf r14) fun r15 =>
      Option.bind (l_X12_mean_120 fu_N r13 x1 x2 (x3 + (Int32.toInt64 r15)) x5 (0 : Int32)) fun (r20 : fu_S) =>
      l_X12_mean_91 n r20 x1 x2 (x3 + (Int32.toInt64 r15)) (x5 + (1 : Int32))
    else
      some (x3, s)
def f_X12_mean (s : fu_S) (a1 : Int32) (a2 : Int32) : Option (Bool × fu_S) :=
  fu_lt (fu_pi s 117 1 (0 : Int32)) fun s1 =>
  fu_lt (fu_pi s1 117 0 (0 : Int32)) fun s2 =>
  if (f_X12_isIn (Int32.toInt64 a2) (1 : Int64) (20 : Int64)) = true then
    if (f_X12_isIn (Int32.toInt64 a1) (0 : Int64) (Int32.toInt64 ((10000 : Int32) - a2))) = true then
      if (s2.1 122 83) = 0 then
        fu_lt (f_X12_no s2 (8 : Int32)) fun r6 =>
        some (r6.1, r6.2)
      else
        Option.bind (l_X12_mean_62 fu_N s2 a1 a2 (0 : Int32)) fun (r11 : fu_S) =>
        Option.bind (l_X12_mean_91 fu_N r11 a1 a2 (0 : Int64) (0 : Int32)) fun (r21 : Int64 × fu_S) =>
        Option.bind (f_X12_fraction r21.2 r21.1 (Int32.toInt64 a2)) fun r22 =>
        some (r22.1, r22.2)
    else
      fu_lt (f_X12_no s2 (5 : Int32)) fun r23 =>
      some (r23.1, r23.2)
  else
    fu_lt (f_X12_no s2 (5 : Int32)) fun r24 =>
    some (r24.1, r24.2)
/-! X12_mark -/
def f_X12_mark (s : fu_S) : Option (Int32 × fu_S) :=
  fu_lt (fu_pi s 117 1 (0 : Int32)) fun s1 =>
  fu_lt (fu_pi s1 117 0 (0 : Int32)) fun s2 =>
  if (s2.1 117 23) = (3 : Int32) then
    fu_lt (f_X12_refuse s2 (7 : Int32)) fun r4 =>
    some (r4.1, r4.2)
  else
    fu_lt (fu_pi s2 117 23 ((s2.1 117 23) + (1 : Int32))) fun s5 =>
    Option.bind (f_X12_copy s5 (0 : Int32) (s5.1 117 23)) fun r6 =>
    some ((r6.1 117 23), r6)
/-! X12_back -/
def f_X12_back (s : fu_S) : Option (Int32 × fu_S) :=
  fu_lt (fu_pi s 117 1 (0 : Int32)) fun s1 =>
  fu_lt (fu_pi s1 117 0 (0 : Int32)) fun s2 =>
  if (s2.1 117 23) = 0 then
    fu_lt (f_X12_refuse s2 (8 : Int32)) fun r4 =>
    some (r4.1, r4.2)
  else
    Option.bind (f_X12_copy s2 (s2.1 117 23) (0 : Int32)) fun r5 =>
    fu_lt (fu_pi r5 117 23 ((r5.1 117 23) - (1 : Int32))) fun s6 =>
    some ((s6.1 117 23), s6)
