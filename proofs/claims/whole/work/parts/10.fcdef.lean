/-! printed by wip/whole/lift/lift.py: the methods as functions -/
def fc_rr_50 (i : Nat) : Nat := ([51, 64, 77][i]?).getD 0
def fc_rr_90 (i : Nat) : Nat := ([91, 96, 101][i]?).getD 0
/-! X0_clear -/
def l_X0_clear_2 : Nat → fu_S → Int32 → Option (fu_S)
  | 0, _, _ => none
  | n + 1, s, x1 =>
    if x1 < (7 : Int32) then
      if am_in x1 7 = true then
        fu_lt (fu_pi s 115 (Int32.toNatClampNeg x1) (0 : Int32)) fun s2 =>
        l_X0_clear_2 n s2 (x1 + (1 : Int32))
      else none
    else
      some s
def f_X0_clear (s : fu_S) : Option fu_S :=
  Option.bind (l_X0_clear_2 fu_N s (0 : Int32)) fun (r4 : fu_S) =>
  some r4
/-! X0_draw -/
def f_X0_draw (s : fu_S) (a1 : Int32) (a2 : Int32) : Option fu_S :=
  Option.bind (
    if a1 < 0 then
      some s
    else
      if a1 < (7 : Int32) then
        if a2 < 0 then
          some s
        else
          if a2 < (7 : Int32) then
            if am_in a1 7 = true then
              if am_in a1 7 = true then
                fu_lt (fu_pi s 115 (Int32.toNatClampNeg a1) ((s.1 115 (Int32.toNatClampNeg a1)) ||| ((1 : Int32) <<< (a2 &&& 31)))) fun s7 =>
                some s7
              else none
            else none
          else
            some s
      else
        some s
  ) fun (j1 : fu_S) =>
  some j1
/-! X4_things -/
def f_X4_things (s : fu_S) (P0 : Nat) : Int32 :=
  (s.1 P0 5)
/-! X4_hasThing -/
def f_X4_hasThing (s : fu_S) (P0 : Nat) (a1 : Int32) : Bool :=
  fu_lt (
    if a1 < 0 then
      false
    else
      if a1 < (s.1 P0 5) then
        true
      else
        false
  ) fun (j1 : Bool) =>
  j1
/-! X4_isScratched -/
def f_X4_isScratched (s : fu_S) (P0 : Nat) (a1 : Int32) : Option Bool :=
  Option.bind (
    if (f_X4_hasThing s P0 a1) = true then
      if am_in a1 8 = true then
        if (s.1 (P0 + 11) (Int32.toNatClampNeg a1)) = (-1 : Int32) then
          some false
        else
          some true
      else none
    else
      some false
  ) fun (j1 : Bool) =>
  some j1
/-! X4_ownerOf -/
def f_X4_ownerOf (s : fu_S) (P0 : Nat) (a1 : Int32) : Option Int32 :=
  Option.bind (
    if (f_X4_hasThing s P0 a1) = true then
      if am_in a1 8 = true then
        some (s.1 (P0 + 7) (Int32.toNatClampNeg a1))
      else none
    else
      some (-1 : Int32)
  ) fun (j1 : Int32) =>
  some j1
/-! X4_bearerOf -/
def f_X4_bearerOf (s : fu_S) (P0 : Nat) (a1 : Int32) : Option Int32 :=
  Option.bind (
    if a1 < 0 then
      some (-1 : Int32)
    else
      if a1 < (s.1 P0 5) then
        if am_in a1 8 = true then
          some (s.1 (P0 + 8) (Int32.toNatClampNeg a1))
        else none
      else
        some (-1 : Int32)
  ) fun (j1 : Int32) =>
  Option.bind (
    if j1 < 0 then
      some (-1 : Int32)
    else
      if j1 < (s.1 P0 3) then
        if (s.1 P0 4) ≤ 0 then
          some (-1 : Int32)
        else
          if am_in a1 8 = true then
            if am_in j1 5 = true then
              if (s.1 P0 4) = 0 then none else
              some (((s.1 (P0 + 7) (Int32.toNatClampNeg a1)) + (s.1 (P0 + 1) (Int32.toNatClampNeg j1))) - ((s.1 (P0 + 7) (Int32.toNatClampNeg a1)) + (s.1 (P0 + 1) (Int32.toNatClampNeg j1))) / (s.1 P0 4) * (s.1 P0 4))
            else none
          else none
      else
        some (-1 : Int32)
  ) fun (j5 : Int32) =>
  some j5
/-! X0_drawNeeds -/
def l_X0_drawNeeds_6 : Nat → fu_S → Nat → Int32 → Int32 → Option (fu_S)
  | 0, _, _, _, _ => none
  | n + 1, s, P1, x2, x3 =>
    if x3 < (f_X4_things s P1) then
      Option.bind (f_X4_isScratched s P1 x3) fun r3 =>
      Option.bind (
        if r3 = true then
          some s
        else
          if ((x2 >>> (x3 &&& 31)) &&& (1 : Int32)) = 0 then
            Option.bind (f_X4_ownerOf s P1 x3) fun r7 =>
            Option.bind (f_X4_bearerOf s P1 x3) fun r8 =>
            Option.bind (f_X0_draw s r7 r8) fun r9 =>
            some r9
          else
            some s
      ) fun (j4 : fu_S) =>
      l_X0_drawNeeds_6 n j4 P1 x2 (x3 + (1 : Int32))
    else
      some s
def f_X0_drawNeeds (s : fu_S) (P1 : Nat) (a2 : Int32) : Option fu_S :=
  Option.bind (f_X0_clear s) fun r1 =>
  Option.bind (l_X0_drawNeeds_6 fu_N r1 P1 a2 (0 : Int32)) fun (r10 : fu_S) =>
  some r10
/-! X4_people -/
def f_X4_people (s : fu_S) (P0 : Nat) : Int32 :=
  (s.1 P0 4)
/-! X4_kinds -/
def f_X4_kinds (s : fu_S) (P0 : Nat) : Int32 :=
  (s.1 P0 3)
/-! X4_hasKind -/
def f_X4_hasKind (s : fu_S) (P0 : Nat) (a1 : Int32) : Bool :=
  fu_lt (
    if a1 < 0 then
      false
    else
      if a1 < (s.1 P0 3) then
        true
      else
        false
  ) fun (j1 : Bool) =>
  j1
/-! X4_bearerBySteps -/
def f_X4_bearerBySteps (s : fu_S) (P0 : Nat) (a1 : Int32) (a2 : Int32) : Option Int32 :=
  Option.bind (
    if a1 < 0 then
      some (-1 : Int32)
    else
      if a1 < (s.1 P0 4) then
        if (s.1 P0 4) = 0 then none else
        some ((a1 + a2) - (a1 + a2) / (s.1 P0 4) * (s.1 P0 4))
      else
        some (-1 : Int32)
  ) fun (j1 : Int32) =>
  some j1
/-! X4_bearerBy -/
def f_X4_bearerBy (s : fu_S) (P0 : Nat) (a1 : Int32) (a2 : Int32) : Option Int32 :=
  Option.bind (
    if (f_X4_hasKind s P0 a2) = true then
      if am_in a2 5 = true then
        Option.bind (f_X4_bearerBySteps s P0 a1 (s.1 (P0 + 1) (Int32.toNatClampNeg a2))) fun r4 =>
        some r4
      else none
    else
      some (-1 : Int32)
  ) fun (j1 : Int32) =>
  some j1
/-! X0_drawKinds -/
def l_X0_drawKinds_16 : Nat → fu_S → Nat → Int32 → Int32 → Option (fu_S)
  | 0, _, _, _, _ => none
  | n + 1, s, P1, x2, x3 =>
    if x3 < (f_X4_kinds s P1) then
      Option.bind (f_X4_bearerBy s P1 x2 x3) fun r4 =>
      Option.bind (f_X0_draw s x2 r4) fun r5 =>
      l_X0_drawKinds_16 n r5 P1 x2 (x3 + (1 : Int32))
    else
      some s
def l_X0_drawKinds_6 : Nat → fu_S → Nat → Int32 → Option (fu_S)
  | 0, _, _, _ => none
  | n + 1, s, P1, x2 =>
    if x2 < (f_X4_people s P1) then
      Option.bind (l_X0_drawKinds_16 fu_N s P1 x2 (0 : Int32)) fun (r6 : fu_S) =>
      l_X0_drawKinds_6 n r6 P1 (x2 + (1 : Int32))
    else
      some s
def f_X0_drawKinds (s : fu_S) (P1 : Nat) : Option fu_S :=
  Option.bind (f_X0_clear s) fun r1 =>
  Option.bind (l_X0_drawKinds_6 fu_N r1 P1 (0 : Int32)) fun (r7 : fu_S) =>
  some r7
/-! X0_from -/
def f_X0_from (s : fu_S) (a1 : Int32) : Option Int32 :=
  Option.bind (
    if a1 < 0 then
      some (0 : Int32)
    else
      if a1 < (7 : Int32) then
        if am_in a1 7 = true then
          some (s.1 115 (Int32.toNatClampNeg a1))
        else none
      else
        some (0 : Int32)
  ) fun (j1 : Int32) =>
  some j1
/-! X0_fromAll -/
def l_X0_fromAll_4 : Nat → fu_S → Int32 → Int32 → Int32 → Option (Int32)
  | 0, _, _, _, _ => none
  | n + 1, s, x1, x2, x3 =>
    if x3 < (7 : Int32) then
      Option.bind (
        if ((x1 >>> (x3 &&& 31)) &&& (1 : Int32)) = 0 then
          some (0 : Int32)
        else
          if am_in x3 7 = true then
            some (s.1 115 (Int32.toNatClampNeg x3))
          else none
      ) fun (j2 : Int32) =>
      l_X0_fromAll_4 n s x1 (x2 ||| j2) (x3 + (1 : Int32))
    else
      some x2
def f_X0_fromAll (s : fu_S) (a1 : Int32) : Option Int32 :=
  Option.bind (l_X0_fromAll_4 fu_N s a1 (0 : Int32) (0 : Int32)) fun (r5 : Int32) =>
  some r5
/-! X0_shortestRing -/
def l_X0_shortestRing_20 : Nat → fu_S → Int32 → Int32 → Int32 → Int32 → Option (Int32 × Int32)
  | 0, _, _, _, _, _ => none
  | n + 1, s, x1, x2, x3, x4 =>
    if x4 < (7 : Int32) then
      if ((x3 >>> (x2 &&& 31)) &&& (1 : Int32)) = 0 then
        Option.bind (f_X0_fromAll s x3) fun r5 =>
        l_X0_shortestRing_20 n s x1 x2 r5 (x4 + (1 : Int32))
      else
        some (x3, x4)
    else
      some (x3, x4)
def l_X0_shortestRing_4 : Nat → fu_S → Int32 → Int32 → Option (Int32)
  | 0, _, _, _ => none
  | n + 1, s, x1, x2 =>
    if x2 < (7 : Int32) then
      if am_in x2 7 = true then
        Option.bind (l_X0_shortestRing_20 fu_N s x1 x2 (s.1 115 (Int32.toNatClampNeg x2)) (1 : Int32)) fun (r6 : Int32 × Int32) =>
        Option.bind (
          if ((r6.1 >>> (x2 &&& 31)) &&& (1 : Int32)) = 0 then
            some x1
          else
            if x1 = (-1 : Int32) then
              some r6.2
            else
              if r6.2 < x1 then
                some r6.2
              else
                some x1
        ) fun (j7 : Int32) =>
        l_X0_shortestRing_4 n s j7 (x2 + (1 : Int32))
      else none
    else
      some x1
def f_X0_shortestRing (s : fu_S) : Option Int32 :=
  Option.bind (l_X0_shortestRing_4 fu_N s (-1 : Int32) (0 : Int32)) fun (r11 : Int32) =>
  some r11
/-! X4_scratchedSet -/
def l_X4_scratchedSet_4 : Nat → fu_S → Nat → Int32 → Int32 → Option (Int32)
  | 0, _, _, _, _ => none
  | n + 1, s, P0, x1, x2 =>
    if x2 < (s.1 P0 5) then
      Option.bind (f_X4_isScratched s P0 x2) fun r2 =>
      Option.bind (
        if r2 = true then
          some ((1 : Int32) <<< (x2 &&& 31))
        else
          some (0 : Int32)
      ) fun (j3 : Int32) =>
      l_X4_scratchedSet_4 n s P0 (x1 ||| j3) (x2 + (1 : Int32))
    else
      some x1
def f_X4_scratchedSet (s : fu_S) (P0 : Nat) : Option Int32 :=
  Option.bind (l_X4_scratchedSet_4 fu_N s P0 (0 : Int32) (0 : Int32)) fun (r5 : Int32) =>
  some r5
/-! J6_bitCount_0f7a4 -/
def f_J6_bitCount_0f7a4 (a0 : Int32) : Int32 :=
  ((((((((a0 - ((UInt32.toInt32 ((Int32.toUInt32 a0) >>> ((Int32.toUInt32 (1 : Int32)) &&& Int32.toUInt32 31))) &&& (1431655765 : Int32))) &&& (858993459 : Int32)) + ((UInt32.toInt32 ((Int32.toUInt32 (a0 - ((UInt32.toInt32 ((Int32.toUInt32 a0) >>> ((Int32.toUInt32 (1 : Int32)) &&& Int32.toUInt32 31))) &&& (1431655765 : Int32)))) >>> ((Int32.toUInt32 (2 : Int32)) &&& Int32.toUInt32 31))) &&& (858993459 : Int32))) + (UInt32.toInt32 ((Int32.toUInt32 (((a0 - ((UInt32.toInt32 ((Int32.toUInt32 a0) >>> ((Int32.toUInt32 (1 : Int32)) &&& Int32.toUInt32 31))) &&& (1431655765 : Int32))) &&& (858993459 : Int32)) + ((UInt32.toInt32 ((Int32.toUInt32 (a0 - ((UInt32.toInt32 ((Int32.toUInt32 a0) >>> ((Int32.toUInt32 (1 : Int32)) &&& Int32.toUInt32 31))) &&& (1431655765 : Int32)))) >>> ((Int32.toUInt32 (2 : Int32)) &&& Int32.toUInt32 31))) &&& (858993459 : Int32)))) >>> ((Int32.toUInt32 (4 : Int32)) &&& Int32.toUInt32 31)))) &&& (252645135 : Int32)) + (UInt32.toInt32 ((Int32.toUInt32 (((((a0 - ((UInt32.toInt32 ((Int32.toUInt32 a0) >>> ((Int32.toUInt32 (1 : Int32)) &&& Int32.toUInt32 31))) &&& (1431655765 : Int32))) &&& (858993459 : Int32)) + ((UInt32.toInt32 ((Int32.toUInt32 (a0 - ((UInt32.toInt32 ((Int32.toUInt32 a0) >>> ((Int32.toUInt32 (1 : Int32)) &&& Int32.toUInt32 31))) &&& (1431655765 : Int32)))) >>> ((Int32.toUInt32 (2 : Int32)) &&& Int32.toUInt32 31))) &&& (858993459 : Int32))) + (UInt32.toInt32 ((Int32.toUInt32 (((a0 - ((UInt32.toInt32 ((Int32.toUInt32 a0) >>> ((Int32.toUInt32 (1 : Int32)) &&& Int32.toUInt32 31))) &&& (1431655765 : Int32))) &&& (858993459 : Int32)) + ((UInt32.toInt32 ((Int32.toUInt32 (a0 - ((UInt32.toInt32 ((Int32.toUInt32 a0) >>> ((Int32.toUInt32 (1 : Int32)) &&& Int32.toUInt32 31))) &&& (1431655765 : Int32)))) >>> ((Int32.toUInt32 (2 : Int32)) &&& Int32.toUInt32 31))) &&& (858993459 : Int32)))) >>> ((Int32.toUInt32 (4 : Int32)) &&& Int32.toUInt32 31)))) &&& (252645135 : Int32))) >>> ((Int32.toUInt32 (8 : Int32)) &&& Int32.toUInt32 31)))) + (UInt32.toInt32 ((Int32.toUInt32 ((((((a0 - ((UInt32.toInt32 ((Int32.toUInt32 a0) >>> ((Int32.toUInt32 (1 : Int32)) &&& Int32.toUInt32 31))) &&& (1431655765 : Int32))) &&& (858993459 : Int32)) + ((UInt32.toInt32 ((Int32.toUInt32 (a0 - ((UInt32.toInt32 ((Int32.toUInt32 a0) >>> ((Int32.toUInt32 (1 : Int32)) &&& Int32.toUInt32 31))) &&& (1431655765 : Int32)))) >>> ((Int32.toUInt32 (2 : Int32)) &&& Int32.toUInt32 31))) &&& (858993459 : Int32))) + (UInt32.toInt32 ((Int32.toUInt32 (((a0 - ((UInt32.toInt32 ((Int32.toUInt32 a0) >>> ((Int32.toUInt32 (1 : Int32)) &&& Int32.toUInt32 31))) &&& (1431655765 : Int32))) &&& (858993459 : Int32)) + ((UInt32.toInt32 ((Int32.toUInt32 (a0 - ((UInt32.toInt32 ((Int32.toUInt32 a0) >>> ((Int32.toUInt32 (1 : Int32)) &&& Int32.toUInt32 31))) &&& (1431655765 : Int32)))) >>> ((Int32.toUInt32 (2 : Int32)) &&& Int32.toUInt32 31))) &&& (858993459 : Int32)))) >>> ((Int32.toUInt32 (4 : Int32)) &&& Int32.toUInt32 31)))) &&& (252645135 : Int32)) + (UInt32.toInt32 ((Int32.toUInt32 (((((a0 - ((UInt32.toInt32 ((Int32.toUInt32 a0) >>> ((Int32.toUInt32 (1 : Int32)) &&& Int32.toUInt32 31))) &&& (1431655765 : Int32))) &&& (858993459 : Int32)) + ((UInt32.toInt32 ((Int32.toUInt32 (a0 - ((UInt32.toInt32 ((Int32.toUInt32 a0) >>> ((Int32.toUInt32 (1 : Int32)) &&& Int32.toUInt32 31))) &&& (1431655765 : Int32)))) >>> ((Int32.toUInt32 (2 : Int32)) &&& Int32.toUInt32 31))) &&& (858993459 : Int32))) + (UInt32.toInt32 ((Int32.toUInt32 (((a0 - ((UInt32.toInt32 ((Int32.toUInt32 a0) >>> ((Int32.toUInt32 (1 : Int32)) &&& Int32.toUInt32 31))) &&& (1431655765 : Int32))) &&& (858993459 : Int32)) + ((UInt32.toInt32 ((Int32.toUInt32 (a0 - ((UInt32.toInt32 ((Int32.toUInt32 a0) >>> ((Int32.toUInt32 (1 : Int32)) &&& Int32.toUInt32 31))) &&& (1431655765 : Int32)))) >>> ((Int32.toUInt32 (2 : Int32)) &&& Int32.toUInt32 31))) &&& (858993459 : Int32)))) >>> ((Int32.toUInt32 (4 : Int32)) &&& Int32.toUInt32 31)))) &&& (252645135 : Int32))) >>> ((Int32.toUInt32 (8 : Int32)) &&& Int32.toUInt32 31))))) >>> ((Int32.toUInt32 (16 : Int32)) &&& Int32.toUInt32 31)))) &&& (63 : Int32))
/-! X0_leastEnding -/
def l_X0_leastEnding_21 : Nat → fu_S → Nat → Int32 → Int32 → Int32 → Option (Int32 × fu_S)
  | 0, _, _, _, _, _ => none
  | n + 1, s, P1, x2, x3, x4 =>
    if x4 ≤ x2 then
      Option.bind (
        if x4 = 0 then
          some true
        else
          if (f_J6_bitCount_0f7a4 x4) < (f_J6_bitCount_0f7a4 x3) then
            some true
          else
            some false
      ) fun (j3 : Bool) =>
      Option.bind (
        if (x4 &&& (x2 ^^^ (-1 : Int32))) = 0 then
          if j3 = true then
            Option.bind (f_X0_drawNeeds s P1 x4) fun r9 =>
            Option.bind (f_X0_shortestRing r9) fun r10 =>
            Option.bind (
              if r10 = (-1 : Int32) then
                some x4
              else
                some x3
            ) fun (j11 : Int32) =>
            some (j11, r9)
          else
            some (x3, s)
        else
          some (x3, s)
      ) fun (j6 : Int32 × fu_S) =>
      l_X0_leastEnding_21 n j6.2 P1 x2 j6.1 (x4 + (1 : Int32))
    else
      some (x3, s)
def f_X0_leastEnding (s : fu_S) (P1 : Nat) : Option (Int32 × fu_S) :=
  Option.bind (f_X4_scratchedSet s P1) fun r1 =>
  Option.bind (l_X0_leastEnding_21 fu_N s P1 ((r1 ^^^ (-1 : Int32)) &&& (((1 : Int32) <<< ((f_X4_things s P1) &&& 31)) - (1 : Int32))) ((r1 ^^^ (-1 : Int32)) &&& (((1 : Int32) <<< ((f_X4_things s P1) &&& 31)) - (1 : Int32))) (0 : Int32)) fun (r13 : Int32 × fu_S) =>
  some (r13.1, r13.2)
/-! X0_nextOnWay -/
def l_X0_nextOnWay_2 : Nat → fu_S → Int32 → Int32 → Int32 → Option (Int32 ⊕ (Unit))
  | 0, _, _, _, _ => none
  | n + 1, s, x1, x2, x3 =>
    if x3 < (7 : Int32) then
      Option.bind (f_X0_from s x1) fun r2 =>
      if ((r2 >>> (x3 &&& 31)) &&& (1 : Int32)) = 0 then
        l_X0_nextOnWay_2 n s x1 x2 (x3 + (1 : Int32))
      else
        if am_in x3 7 = true then
          if (s.1 116 (Int32.toNatClampNeg x3)) = (x2 - (1 : Int32)) then
            some (.inl x3)
          else
            l_X0_nextOnWay_2 n s x1 x2 (x3 + (1 : Int32))
        else none
    else
      some (.inr ())
def f_X0_nextOnWay (s : fu_S) (a1 : Int32) (a2 : Int32) : Option Int32 :=
  Option.bind (l_X0_nextOnWay_2 fu_N s a1 a2 (0 : Int32)) (Sum.elim (fun (a : Int32) => some a) fun (r6 : Unit) =>
    some (-1 : Int32)
  )
/-! X0_measureTo -/
def l_X0_measureTo_2 : Nat → fu_S → Int32 → Int32 → Option (fu_S)
  | 0, _, _, _ => none
  | n + 1, s, x1, x2 =>
    if x2 < (7 : Int32) then
      Option.bind (
        if x2 = x1 then
          some (0 : Int32)
        else
          some (-1 : Int32)
      ) fun (j2 : Int32) =>
      if am_in x2 7 = true then
        fu_lt (fu_pi s 116 (Int32.toNatClampNeg x2) j2) fun s4 =>
        l_X0_measureTo_2 n s4 x1 (x2 + (1 : Int32))
      else none
    else
      some s
def l_X0_measureTo_40 : Nat → fu_S → Int32 → Int32 → Option (fu_S)
  | 0, _, _, _ => none
  | n + 1, s, x2, x3 =>
    if x3 < (7 : Int32) then
      if am_in x3 7 = true then
        Option.bind (
          if (s.1 116 (Int32.toNatClampNeg x3)) = (-1 : Int32) then
            Option.bind (f_X0_nextOnWay s x3 x2) fun r12 =>
            if r12 = (-1 : Int32) then
              some s
            else
              if am_in x3 7 = true then
                fu_lt (fu_pi s 116 (Int32.toNatClampNeg x3) x2) fun s14 =>
                some s14
              else none
          else
            some s
        ) fun (j10 : fu_S) =>
        l_X0_measureTo_40 n j10 x2 (x3 + (1 : Int32))
      else none
    else
      some s
def l_X0_measureTo_32 : Nat → fu_S → Int32 → Option (fu_S)
  | 0, _, _ => none
  | n + 1, s, x2 =>
    if x2 < (7 : Int32) then
      Option.bind (l_X0_measureTo_40 fu_N s x2 (0 : Int32)) fun (r16 : fu_S) =>
      l_X0_measureTo_32 n r16 (x2 + (1 : Int32))
    else
      some s
def f_X0_measureTo (s : fu_S) (a1 : Int32) : Option fu_S :=
  Option.bind (l_X0_measureTo_2 fu_N s a1 (0 : Int32)) fun (r6 : fu_S) =>
  Option.bind (l_X0_measureTo_32 fu_N r6 (1 : Int32)) fun (r17 : fu_S) =>
  some r17
/-! X0_stepsFrom -/
def f_X0_stepsFrom (s : fu_S) (a1 : Int32) : Option Int32 :=
  Option.bind (
    if a1 < 0 then
      some (-1 : Int32)
    else
      if a1 < (7 : Int32) then
        if am_in a1 7 = true then
          some (s.1 116 (Int32.toNatClampNeg a1))
        else none
      else
        some (-1 : Int32)
  ) fun (j1 : Int32) =>
  some j1
/-! X0_passedBy -/
def l_X0_passedBy_28 : Nat → fu_S → Int32 → Int32 → Int32 → Int32 → Option (Int32)
  | 0, _, _, _, _, _ => none
  | n + 1, s, x2, x3, x4, x5 =>
    if x5 < x2 then
      if x5 < x3 then
        Option.bind (f_X0_nextOnWay s x4 (x3 - x5)) fun r7 =>
        l_X0_passedBy_28 n s x2 x3 r7 (x5 + (1 : Int32))
      else
        some x4
    else
      some x4
def f_X0_passedBy (s : fu_S) (a1 : Int32) (a2 : Int32) : Option Int32 :=
  Option.bind (f_X0_stepsFrom s a1) fun r1 =>
  if r1 = (-1 : Int32) then
    some (-1 : Int32)
  else
    if a2 < 0 then
      some (-1 : Int32)
    else
      if a2 ≤ r1 then
        Option.bind (l_X0_passedBy_28 fu_N s a2 r1 a1 (0 : Int32)) fun (r8 : Int32) =>
        some r8
      else
        some (-1 : Int32)
/-! X4_spotFrom -/
def f_X4_spotFrom (P0 : Nat) (a1 : Int32) (a2 : Int32) : Int32 :=
  ((a1 + a2) - (a1 + a2) / (10 : Int32) * (10 : Int32))
/-! X4_spotBy -/
def f_X4_spotBy (s : fu_S) (P0 : Nat) (a1 : Int32) (a2 : Int32) : Option Int32 :=
  Option.bind (
    if (f_X4_hasKind s P0 a2) = true then
      if am_in a2 5 = true then
        some (f_X4_spotFrom P0 a1 (s.1 (P0 + 2) (Int32.toNatClampNeg a2)))
      else none
    else
      some (-1 : Int32)
  ) fun (j1 : Int32) =>
  some j1
/-! X1_itches -/
def f_X1_itches (s : fu_S) (P0 : Nat) (a1 : Int32) (a2 : Int32) (a3 : Int32) (a4 : Int32) : Option Bool :=
  Option.bind (f_X4_bearerBy s P0 a1 a2) fun r1 =>
  Option.bind (
    if r1 = a3 then
      Option.bind (f_X4_spotBy s P0 a1 a2) fun r4 =>
      if r4 = a4 then
        some true
      else
        some false
    else
      some false
  ) fun (j2 : Bool) =>
  some j2
/-! X1_countCouples -/
def l_X1_countCouples_17 : Nat → fu_S → Nat → Int32 → Int32 → Int32 → Int32 → Int32 → Option (Int32)
  | 0, _, _, _, _, _, _, _ => none
  | n + 1, s, P0, x1, x2, x3, x4, x5 =>
    if x5 < (f_X4_kinds s P0) then
      Option.bind (f_X1_itches s P0 x4 x5 x1 x2) fun r3 =>
      Option.bind (
        if r3 = true then
          some true
        else
          some false
      ) fun (j4 : Bool) =>
      l_X1_countCouples_17 n s P0 x1 x2 (x3 + (fu_b j4)) x4 (x5 + (1 : Int32))
    else
      some x3
def l_X1_countCouples_5 : Nat → fu_S → Nat → Int32 → Int32 → Int32 → Int32 → Option (Int32)
  | 0, _, _, _, _, _, _ => none
  | n + 1, s, P0, x1, x2, x3, x4 =>
    if x4 < (f_X4_people s P0) then
      Option.bind (l_X1_countCouples_17 fu_N s P0 x1 x2 x3 x4 (0 : Int32)) fun (r6 : Int32) =>
      l_X1_countCouples_5 n s P0 x1 x2 r6 (x4 + (1 : Int32))
    else
      some x3
def f_X1_countCouples (s : fu_S) (P0 : Nat) (a1 : Int32) (a2 : Int32) : Option Int32 :=
  Option.bind (l_X1_countCouples_5 fu_N s P0 a1 a2 (0 : Int32) (0 : Int32)) fun (r7 : Int32) =>
  some r7
/-! X4_ofKind -/
def f_X4_ofKind (s : fu_S) (P0 : Nat) (a1 : Int32) (a2 : Int32) : Option Int32 :=
  Option.bind (
    if (f_X4_hasKind s P0 a1) = true then
      if a2 = 0 then
        if am_in a1 5 = true then
          some (s.1 (P0 + 1) (Int32.toNatClampNeg a1))
        else none
      else
        if a2 = (1 : Int32) then
          if am_in a1 5 = true then
            some (s.1 (P0 + 2) (Int32.toNatClampNeg a1))
          else none
        else
          if am_in a1 5 = true then
            some (s.1 (P0 + 3) (Int32.toNatClampNeg a1))
          else none
    else
      some (0 : Int32)
  ) fun (j1 : Int32) =>
  some j1
/-! X4_weightOfKind -/
def f_X4_weightOfKind (s : fu_S) (P0 : Nat) (a1 : Int32) : Option Int32 :=
  Option.bind (f_X4_ofKind s P0 a1 (2 : Int32)) fun r1 =>
  some r1
/-! X1_weightOf -/
def l_X1_weightOf_6 : Nat → fu_S → Nat → Int32 → Int32 → Int32 → Int32 → Int32 → Option (Int32)
  | 0, _, _, _, _, _, _, _ => none
  | n + 1, s, P0, x1, x2, x3, x4, x5 =>
    if x5 < (f_X4_kinds s P0) then
      Option.bind (f_X1_itches s P0 x3 x5 x1 x2) fun r2 =>
      Option.bind (
        if r2 = true then
          Option.bind (f_X4_weightOfKind s P0 x5) fun r5 =>
          some r5
        else
          some (0 : Int32)
      ) fun (j3 : Int32) =>
      l_X1_weightOf_6 n s P0 x1 x2 x3 (x4 + j3) (x5 + (1 : Int32))
    else
      some x4
def f_X1_weightOf (s : fu_S) (P0 : Nat) (a1 : Int32) (a2 : Int32) (a3 : Int32) : Option Int32 :=
  Option.bind (l_X1_weightOf_6 fu_N s P0 a1 a2 a3 (0 : Int32) (0 : Int32)) fun (r6 : Int32) =>
  some r6
/-! X1_spotSet -/
def l_X1_spotSet_5 : Nat → fu_S → Nat → Int32 → Int32 → Int32 → Int32 → Option (Int32)
  | 0, _, _, _, _, _, _ => none
  | n + 1, s, P0, x1, x2, x3, x4 =>
    if x4 < (f_X4_kinds s P0) then
      Option.bind (f_X4_bearerBy s P0 x1 x4) fun r2 =>
      Option.bind (
        if r2 = x2 then
          Option.bind (f_X4_spotBy s P0 x1 x4) fun r5 =>
          some ((1 : Int32) <<< (r5 &&& 31))
        else
          some (0 : Int32)
      ) fun (j3 : Int32) =>
      l_X1_spotSet_5 n s P0 x1 x2 (x3 ||| j3) (x4 + (1 : Int32))
    else
      some x3
def f_X1_spotSet (s : fu_S) (P0 : Nat) (a1 : Int32) (a2 : Int32) : Option Int32 :=
  Option.bind (l_X1_spotSet_5 fu_N s P0 a1 a2 (0 : Int32) (0 : Int32)) fun (r6 : Int32) =>
  some r6
/-! X7_isTray -/
def f_X7_isTray (a1 : Int32) : Bool :=
  fu_lt (
    if a1 < 0 then
      false
    else
      if a1 < (4 : Int32) then
        true
      else
        false
  ) fun (j1 : Bool) =>
  j1
/-! X7_isThere -/
def f_X7_isThere (s : fu_S) (a1 : Int32) : Option Bool :=
  Option.bind (
    if (f_X7_isTray a1) = true then
      if am_in a1 4 = true then
        if (s.1 4 (Int32.toNatClampNeg a1)) = (-1 : Int32) then
          some false
        else
          some true
      else none
    else
      some false
  ) fun (j1 : Bool) =>
  some j1
/-! X7_hasPlaces -/
def f_X7_hasPlaces (s : fu_S) (a1 : Int32) (a2 : Int32) (a3 : Int32) : Option Bool :=
  Option.bind (f_X7_isThere s a1) fun r1 =>
  Option.bind (
    if r1 = true then
      if a2 < 0 then
        some false
      else
        if a3 < 0 then
          some false
        else
          if am_in a1 4 = true then
            if a3 ≤ (s.1 4 (Int32.toNatClampNeg a1)) then
              if am_in a1 4 = true then
                if a2 ≤ ((s.1 4 (Int32.toNatClampNeg a1)) - a3) then
                  some true
                else
                  some false
              else none
            else
              some false
          else none
    else
      some false
  ) fun (j2 : Bool) =>
  some j2
/-! X7_numberAt -/
def f_X7_numberAt (s : fu_S) (a1 : Int32) (a2 : Int32) : Option Int64 :=
  Option.bind (f_X7_hasPlaces s a1 a2 (1 : Int32)) fun r1 =>
  Option.bind (
    if r1 = true then
      if am_in ((a1 * (60 : Int32)) + a2) 240 = true then
        some (s.2 2 (Int32.toNatClampNeg ((a1 * (60 : Int32)) + a2)))
      else none
    else
      some (-1 : Int64)
  ) fun (j2 : Int64) =>
  some j2
/-! X1_areThrees -/
def l_X1_areThrees_3 : Nat → fu_S → Nat → Int32 → Int32 → Int32 → Option (Bool ⊕ (Unit))
  | 0, _, _, _, _, _ => none
  | n + 1, s, P0, x2, x3, x4 =>
    if x4 < x3 then
      if x4 < (15 : Int32) then
        Option.bind (f_X7_numberAt s x2 ((3 : Int32) * x4)) fun r3 =>
        Option.bind (f_X7_numberAt s x2 (((3 : Int32) * x4) + (1 : Int32))) fun r4 =>
        Option.bind (f_X7_numberAt s x2 (((3 : Int32) * x4) + (2 : Int32))) fun r5 =>
        Option.bind (
          if r3 < (0 : Int64) then
            some false
          else
            if r3 < (Int32.toInt64 (f_X4_people s P0)) then
              if r4 < (0 : Int64) then
                some false
              else
                if r4 < (Int32.toInt64 (f_X4_people s P0)) then
                  if r5 < (0 : Int64) then
                    some false
                  else
                    if r5 < (10 : Int64) then
                      some true
                    else
                      some false
                else
                  some false
            else
              some false
        ) fun (j6 : Bool) =>
        if j6 = true then
          l_X1_areThrees_3 n s P0 x2 x3 (x4 + (1 : Int32))
        else
          some (.inl false)
      else
        some (.inr ())
    else
      some (.inr ())
def f_X1_areThrees (s : fu_S) (P0 : Nat) (a2 : Int32) (a3 : Int32) : Option Bool :=
  Option.bind (l_X1_areThrees_3 fu_N s P0 a2 a3 (0 : Int32)) (Sum.elim (fun (a : Bool) => some a) fun (r14 : Unit) =>
    some true
  )
/-! X1_isLaw -/
def l_X1_isLaw_3 : Nat → fu_S → Nat → Int32 → Int32 → Int32 → Int32 → Option (Bool ⊕ (Unit))
  | 0, _, _, _, _, _, _ => none
  | n + 1, s, P0, x2, x3, x4, x5 =>
    if x5 < x3 then
      if x5 < (15 : Int32) then
        Option.bind (f_X7_numberAt s x2 ((3 : Int32) * x5)) fun r3 =>
        Option.bind (f_X4_bearerBySteps s P0 (Int64.toInt32 r3) (x4 / (10 : Int32))) fun r4 =>
        Option.bind (f_X7_numberAt s x2 (((3 : Int32) * x5) + (1 : Int32))) fun r5 =>
        if r5 = (Int32.toInt64 r4) then
          Option.bind (f_X7_numberAt s x2 (((3 : Int32) * x5) + (2 : Int32))) fun r7 =>
          if r7 = (Int32.toInt64 (f_X4_spotFrom P0 (Int64.toInt32 r3) (x4 - x4 / (10 : Int32) * (10 : Int32)))) then
            l_X1_isLaw_3 n s P0 x2 x3 x4 (x5 + (1 : Int32))
          else
            some (.inl false)
        else
          some (.inl false)
      else
        some (.inr ())
    else
      some (.inr ())
def f_X1_isLaw (s : fu_S) (P0 : Nat) (a2 : Int32) (a3 : Int32) (a4 : Int32) : Option Bool :=
  Option.bind (l_X1_isLaw_3 fu_N s P0 a2 a3 a4 (0 : Int32)) (Sum.elim (fun (a : Bool) => some a) fun (r9 : Unit) =>
    some true
  )
/-! X1_countLaws -/
def l_X1_countLaws_7 : Nat → fu_S → Nat → Int32 → Int32 → Int32 → Int32 → Option (Int32)
  | 0, _, _, _, _, _, _ => none
  | n + 1, s, P0, x2, x3, x4, x5 =>
    if x5 < (100 : Int32) then
      Option.bind (f_X1_isLaw s P0 x2 x3 x5) fun r2 =>
      Option.bind (
        if r2 = true then
          some true
        else
          some false
      ) fun (j3 : Bool) =>
      l_X1_countLaws_7 n s P0 x2 x3 (x4 + (fu_b j3)) (x5 + (1 : Int32))
    else
      some x4
def f_X1_countLaws (s : fu_S) (P0 : Nat) (a2 : Int32) (a3 : Int32) : Option Int32 :=
  Option.bind (l_X1_countLaws_7 fu_N s P0 a2 a3 (0 : Int32) (10 : Int32)) fun (r5 : Int32) =>
  some r5
/-! X1_firstLaw -/
def l_X1_firstLaw_4 : Nat → fu_S → Nat → Int32 → Int32 → Int32 → Option (Int32 ⊕ (Unit))
  | 0, _, _, _, _, _ => none
  | n + 1, s, P0, x2, x3, x4 =>
    if x4 < (100 : Int32) then
      Option.bind (f_X1_isLaw s P0 x2 x3 x4) fun r2 =>
      if r2 = true then
        some (.inl x4)
      else
        l_X1_firstLaw_4 n s P0 x2 x3 (x4 + (1 : Int32))
    else
      some (.inr ())
def f_X1_firstLaw (s : fu_S) (P0 : Nat) (a2 : Int32) (a3 : Int32) : Option Int32 :=
  Option.bind (l_X1_firstLaw_4 fu_N s P0 a2 a3 (10 : Int32)) (Sum.elim (fun (a : Int32) => some a) fun (r4 : Unit) =>
    some (-1 : Int32)
  )
/-! X4_clear -/
def f_X4_clear (s : fu_S) (P0 : Nat) : fu_S :=
  fu_lt (fu_pi s P0 0 (4 : Int32)) fun s1 =>
  fu_lt (fu_pi s1 P0 1 (5 : Int32)) fun s2 =>
  fu_lt (fu_pi s2 P0 2 (0 : Int32)) fun s3 =>
  fu_lt (fu_pi s3 P0 3 (0 : Int32)) fun s4 =>
  fu_lt (fu_pi s4 P0 4 (0 : Int32)) fun s5 =>
  fu_lt (fu_pi s5 P0 5 (0 : Int32)) fun s6 =>
  s6
/-! X8_sortHere -/
def f_X8_sortHere (s : fu_S) : Option Int32 :=
  Option.bind (
    if (s.1 5 7) < 0 then
      some (0 : Int32)
    else
      if (s.1 5 7) < (s.1 5 6) then
        if am_in (s.1 5 7) 901 = true then
          some (s.1 8 (Int32.toNatClampNeg (s.1 5 7)))
        else none
      else
        some (0 : Int32)
  ) fun (j1 : Int32) =>
  some j1
/-! X8_isAtEnd -/
def f_X8_isAtEnd (s : fu_S) : Option Bool :=
  Option.bind (f_X8_sortHere s) fun r1 =>
  Option.bind (
    if r1 = 0 then
      some true
    else
      some false
  ) fun (j2 : Bool) =>
  some j2
/-! X8_refuse -/
def f_X8_refuse (s : fu_S) (a1 : Int32) : Option (Bool × fu_S) :=
  Option.bind (f_X8_sortHere s) fun r1 =>
  Option.bind (
    if r1 = (1 : Int32) then
      some (1 : Int32)
    else
      some a1
  ) fun (j2 : Int32) =>
  fu_lt (fu_pi s 5 8 j2) fun s4 =>
  Option.bind (
    if (s4.1 5 7) < 0 then
      some (0 : Int32)
    else
      if (s4.1 5 7) < (s4.1 5 6) then
        if am_in (s4.1 5 7) 901 = true then
          some (s4.1 9 (Int32.toNatClampNeg (s4.1 5 7)))
        else none
      else
        some (0 : Int32)
  ) fun (j5 : Int32) =>
  fu_lt (fu_pi s4 5 9 j5) fun s9 =>
  some (false, s9)
/-! X8_next -/
def f_X8_next (s : fu_S) : fu_S :=
  fu_lt (
    if (s.1 5 7) < ((s.1 5 6) - (1 : Int32)) then
      fu_lt (fu_pi s 5 7 ((s.1 5 7) + (1 : Int32))) fun s3 =>
      s3
    else
      s
  ) fun (j1 : fu_S) =>
  j1
/-! X8_valueHere -/
def f_X8_valueHere (s : fu_S) : Option Int64 :=
  Option.bind (
    if (s.1 5 7) < 0 then
      some (0 : Int64)
    else
      if (s.1 5 7) < (s.1 5 6) then
        if am_in (s.1 5 7) 901 = true then
          some (s.2 10 (Int32.toNatClampNeg (s.1 5 7)))
        else none
      else
        some (0 : Int64)
  ) fun (j1 : Int64) =>
  some j1
/-! X8_takeNumber -/
def f_X8_takeNumber (s : fu_S) (a1 : Int32) (a2 : Int32) : Option (Int32 × fu_S) :=
  Option.bind (f_X8_valueHere s) fun r1 =>
  Option.bind (f_X8_sortHere s) fun r2 =>
  if r2 = (2 : Int32) then
    if r1 < (Int32.toInt64 a1) then
      Option.bind (f_X8_sortHere s) fun r5 =>
      Option.bind (
        if r5 = (2 : Int32) then
          some (4 : Int32)
        else
          some (2 : Int32)
      ) fun (j6 : Int32) =>
      Option.bind (f_X8_refuse s j6) fun r8 =>
      some ((-1 : Int32), r8.2)
    else
      if r1 ≤ (Int32.toInt64 a2) then
        fu_lt (f_X8_next s) fun r10 =>
        some ((Int64.toInt32 r1), r10)
      else
        Option.bind (f_X8_sortHere s) fun r11 =>
        Option.bind (
          if r11 = (2 : Int32) then
            some (4 : Int32)
          else
            some (2 : Int32)
        ) fun (j12 : Int32) =>
        Option.bind (f_X8_refuse s j12) fun r14 =>
        some ((-1 : Int32), r14.2)
  else
    Option.bind (f_X8_sortHere s) fun r15 =>
    Option.bind (
      if r15 = (2 : Int32) then
        some (4 : Int32)
      else
        some (2 : Int32)
    ) fun (j16 : Int32) =>
    Option.bind (f_X8_refuse s j16) fun r18 =>
    some ((-1 : Int32), r18.2)
/-! X4_setOdds -/
def f_X4_setOdds (s : fu_S) (P0 : Nat) (a1 : Int32) : fu_S :=
  fu_lt (fu_pi s P0 0 a1) fun s1 =>
  s1
/-! X4_setArm -/
def f_X4_setArm (s : fu_S) (P0 : Nat) (a1 : Int32) : fu_S :=
  fu_lt (fu_pi s P0 1 a1) fun s1 =>
  s1
/-! X2_takeRule -/
def f_X2_takeRule (s : fu_S) (a1 : Int32) (a2 : Int32) : Option (Bool × fu_S) :=
  if ((s.1 47 2) &&& ((1 : Int32) <<< ((a1 - (100 : Int32)) &&& 31))) = 0 then
    fu_lt (fu_pi s 47 2 ((s.1 47 2) ||| ((1 : Int32) <<< ((a1 - (100 : Int32)) &&& 31)))) fun s2 =>
    fu_lt (f_X8_next s2) fun r3 =>
    Option.bind (f_X8_takeNumber r3 (0 : Int32) a2) fun r4 =>
    Option.bind (
      if a1 = (100 : Int32) then
        fu_lt (f_X4_setOdds r4.2 29 r4.1) fun r7 =>
        some r7
      else
        fu_lt (f_X4_setArm r4.2 29 r4.1) fun r8 =>
        some r8
    ) fun (j5 : fu_S) =>
    Option.bind (
      if r4.1 = (-1 : Int32) then
        some false
      else
        some true
    ) fun (j9 : Bool) =>
    some (j9, j5)
  else
    Option.bind (f_X8_refuse s (5 : Int32)) fun r11 =>
    some (r11.1, r11.2)
/-! X8_take -/
def f_X8_take (s : fu_S) (a1 : Int32) : Option (Bool × fu_S) :=
  Option.bind (f_X8_sortHere s) fun r1 =>
  if r1 = a1 then
    fu_lt (f_X8_next s) fun r3 =>
    some (true, r3)
  else
    Option.bind (f_X8_refuse s (2 : Int32)) fun r4 =>
    some (r4.1, r4.2)
/-! X2_takePerhaps -/
def f_X2_takePerhaps (s : fu_S) (a1 : Int32) (a2 : Int32) : Option (Int32 × fu_S) :=
  Option.bind (f_X8_sortHere s) fun r1 =>
  if r1 = a1 then
    fu_lt (f_X8_next s) fun r3 =>
    Option.bind (f_X8_takeNumber r3 (1 : Int32) a2) fun r4 =>
    some (r4.1, r4.2)
  else
    some ((1 : Int32), s)
/-! X4_addKind -/
def f_X4_addKind (s : fu_S) (P0 : Nat) (a1 : Int32) (a2 : Int32) (a3 : Int32) : Option fu_S :=
  Option.bind (
    if (s.1 P0 3) < (5 : Int32) then
      if am_in (s.1 P0 3) 5 = true then
        fu_lt (fu_pi s (P0 + 1) (Int32.toNatClampNeg (s.1 P0 3)) a1) fun s3 =>
        if am_in (s3.1 P0 3) 5 = true then
          fu_lt (fu_pi s3 (P0 + 2) (Int32.toNatClampNeg (s3.1 P0 3)) a2) fun s5 =>
          if am_in (s5.1 P0 3) 5 = true then
            fu_lt (fu_pi s5 (P0 + 3) (Int32.toNatClampNeg (s5.1 P0 3)) a3) fun s7 =>
            fu_lt (fu_pi s7 P0 3 ((s7.1 P0 3) + (1 : Int32))) fun s9 =>
            some s9
          else none
        else none
      else none
    else
      some s
  ) fun (j1 : fu_S) =>
  some j1
/-! X2_takeKind -/
def f_X2_takeKind (s : fu_S) : Option (Bool × fu_S) :=
  if (f_X4_kinds s 29) < (5 : Int32) then
    fu_lt (f_X8_next s) fun r2 =>
    Option.bind (f_X8_take r2 (103 : Int32)) fun r3 =>
    Option.bind (
      if r3.1 = true then
        Option.bind (f_X8_takeNumber r3.2 (1 : Int32) (9 : Int32)) fun r6 =>
        some (r6.1, r6.2)
      else
        some ((-1 : Int32), r3.2)
    ) fun (j4 : Int32 × fu_S) =>
    if j4.1 = (-1 : Int32) then
      some (false, j4.2)
    else
      Option.bind (f_X8_take j4.2 (104 : Int32)) fun r8 =>
      Option.bind (
        if r8.1 = true then
          Option.bind (f_X8_takeNumber r8.2 (0 : Int32) (9 : Int32)) fun r11 =>
          some (r11.1, r11.2)
        else
          some ((-1 : Int32), r8.2)
      ) fun (j9 : Int32 × fu_S) =>
      if j9.1 = (-1 : Int32) then
        some (false, j9.2)
      else
        Option.bind (f_X2_takePerhaps j9.2 (105 : Int32) (9 : Int32)) fun r13 =>
        if r13.1 = (-1 : Int32) then
          some (false, r13.2)
        else
          Option.bind (f_X4_addKind r13.2 29 j4.1 j9.1 r13.1) fun r15 =>
          some (true, r15)
  else
    Option.bind (f_X8_refuse s (6 : Int32)) fun r16 =>
    some (r16.1, r16.2)
/-! X8_nameHere -/
def f_X8_nameHere (s : fu_S) : Option Int64 :=
  Option.bind (f_X8_sortHere s) fun r1 =>
  Option.bind (
    if r1 = (3 : Int32) then
      Option.bind (f_X8_valueHere s) fun r4 =>
      some r4
    else
      some (-1 : Int64)
  ) fun (j2 : Int64) =>
  some j2
/-! X4_personNamed -/
def l_X4_personNamed_2 : Nat → fu_S → Nat → Int64 → Int32 → Option (Int32 ⊕ (Unit))
  | 0, _, _, _, _ => none
  | n + 1, s, P0, x1, x3 =>
    if x3 < (s.1 P0 4) then
      if am_in x3 7 = true then
        if (s.2 (P0 + 4) (Int32.toNatClampNeg x3)) = x1 then
          some (.inl x3)
        else
          l_X4_personNamed_2 n s P0 x1 (x3 + (1 : Int32))
      else none
    else
      some (.inr ())
def f_X4_personNamed (s : fu_S) (P0 : Nat) (a1 : Int64) : Option Int32 :=
  Option.bind (l_X4_personNamed_2 fu_N s P0 a1 (0 : Int32)) (Sum.elim (fun (a : Int32) => some a) fun (r4 : Unit) =>
    some (-1 : Int32)
  )
/-! X8_isAtNumber -/
def f_X8_isAtNumber (s : fu_S) : Option Bool :=
  Option.bind (f_X8_sortHere s) fun r1 =>
  Option.bind (
    if r1 = (2 : Int32) then
      some true
    else
      some false
  ) fun (j2 : Bool) =>
  some j2
/-! X8_isAtNumberOf -/
def f_X8_isAtNumberOf (s : fu_S) (a1 : Int32) : Option Bool :=
  Option.bind (f_X8_valueHere s) fun r1 =>
  Option.bind (f_X8_isAtNumber s) fun r2 =>
  Option.bind (
    if r2 = true then
      if r1 < (0 : Int64) then
        some false
      else
        if r1 < (31 : Int64) then
          if ((a1 >>> ((Int64.toInt32 r1) &&& 31)) &&& (1 : Int32)) = 0 then
            some false
          else
            some true
        else
          some false
    else
      some false
  ) fun (j3 : Bool) =>
  some j3
/-! X2_takeReach -/
def l_X2_takeReach_25 : Nat → fu_S → Int32 → Int32 → Option ((Int32 × fu_S) ⊕ (Int32 × fu_S))
  | 0, _, _, _ => none
  | n + 1, s, x1, x2 =>
    if x2 ≤ (10 : Int32) then
      Option.bind (f_X8_isAtNumber s) fun r5 =>
      if r5 = true then
        Option.bind (f_X8_isAtNumberOf s x1) fun r7 =>
        if r7 = true then
          Option.bind (f_X8_refuse s (5 : Int32)) fun r9 =>
          some (.inl ((-1 : Int32), r9.2))
        else
          Option.bind (f_X8_takeNumber s (0 : Int32) (9 : Int32)) fun r10 =>
          if r10.1 = (-1 : Int32) then
            some (.inl ((-1 : Int32), r10.2))
          else
            l_X2_takeReach_25 n r10.2 (x1 ||| ((1 : Int32) <<< (r10.1 &&& 31))) (x2 + (1 : Int32))
      else
        some (.inr (x1, s))
    else
      some (.inr (x1, s))
def f_X2_takeReach (s : fu_S) : Option (Int32 × fu_S) :=
  Option.bind (f_X8_sortHere s) fun r1 =>
  if r1 = (108 : Int32) then
    fu_lt (f_X8_next s) fun r3 =>
    Option.bind (l_X2_takeReach_25 fu_N r3 (0 : Int32) (0 : Int32)) (Sum.elim (fun (a : (Int32 × fu_S)) => some a) fun (r12 : Int32 × fu_S) =>
      some (r12.1, r12.2)
    )
  else
    some ((0 : Int32), s)
/-! X4_addPerson -/
def f_X4_addPerson (s : fu_S) (P0 : Nat) (a1 : Int64) (a2 : Int32) (a3 : Int32) : Option (Int32 × fu_S) :=
  if (s.1 P0 4) < (7 : Int32) then
    if am_in (s.1 P0 4) 7 = true then
      fu_lt (fu_pl s (P0 + 4) (Int32.toNatClampNeg (s.1 P0 4)) a1) fun s2 =>
      if am_in (s2.1 P0 4) 7 = true then
        fu_lt (fu_pi s2 (P0 + 5) (Int32.toNatClampNeg (s2.1 P0 4)) a2) fun s4 =>
        if am_in (s4.1 P0 4) 7 = true then
          fu_lt (fu_pi s4 (P0 + 6) (Int32.toNatClampNeg (s4.1 P0 4)) a3) fun s6 =>
          fu_lt (fu_pi s6 P0 4 ((s6.1 P0 4) + (1 : Int32))) fun s8 =>
          some (((s8.1 P0 4) - (1 : Int32)), s8)
        else none
      else none
    else none
  else
    some ((-1 : Int32), s)
/-! X2_takePerson -/
def f_X2_takePerson (s : fu_S) : Option (Bool × fu_S) :=
  if (f_X4_people s 29) < (7 : Int32) then
    fu_lt (f_X8_next s) fun r2 =>
    Option.bind (f_X8_nameHere r2) fun r3 =>
    if r3 = (-1 : Int64) then
      Option.bind (f_X8_refuse r2 (2 : Int32)) fun r5 =>
      some (r5.1, r5.2)
    else
      Option.bind (f_X4_personNamed r2 29 r3) fun r6 =>
      if r6 = (-1 : Int32) then
        fu_lt (f_X8_next r2) fun r8 =>
        Option.bind (f_X8_take r8 (107 : Int32)) fun r9 =>
        Option.bind (
          if r9.1 = true then
            Option.bind (f_X8_takeNumber r9.2 (0 : Int32) (59 : Int32)) fun r12 =>
            some (r12.1, r12.2)
          else
            some ((-1 : Int32), r9.2)
        ) fun (j10 : Int32 × fu_S) =>
        if j10.1 = (-1 : Int32) then
          some (false, j10.2)
        else
          Option.bind (f_X2_takeReach j10.2) fun r14 =>
          if r14.1 = (-1 : Int32) then
            some (false, r14.2)
          else
            Option.bind (f_X4_addPerson r14.2 29 r3 j10.1 r14.1) fun r16 =>
            some (true, r16.2)
      else
        Option.bind (f_X8_refuse r2 (3 : Int32)) fun r17 =>
        some (r17.1, r17.2)
  else
    Option.bind (f_X8_refuse s (6 : Int32)) fun r18 =>
    some (r18.1, r18.2)
/-! X8_takePersonOf -/
def f_X8_takePersonOf (s : fu_S) (P1 : Nat) : Option (Int32 × fu_S) :=
  Option.bind (f_X8_nameHere s) fun r1 =>
  Option.bind (
    if r1 = (-1 : Int64) then
      some (-1 : Int32)
    else
      Option.bind (f_X4_personNamed s P1 r1) fun r4 =>
      some r4
  ) fun (j2 : Int32) =>
  if j2 = (-1 : Int32) then
    Option.bind (
      if r1 = (-1 : Int64) then
        some (2 : Int32)
      else
        some (3 : Int32)
    ) fun (j6 : Int32) =>
    Option.bind (f_X8_refuse s j6) fun r8 =>
    some ((-1 : Int32), r8.2)
  else
    fu_lt (f_X8_next s) fun r9 =>
    some (j2, r9)
/-! X4_addThing -/
def f_X4_addThing (s : fu_S) (P0 : Nat) (a1 : Int32) (a2 : Int32) (a3 : Int32) : Option (Int32 × fu_S) :=
  if (s.1 P0 5) < (8 : Int32) then
    if am_in (s.1 P0 5) 8 = true then
      fu_lt (fu_pi s (P0 + 7) (Int32.toNatClampNeg (s.1 P0 5)) a1) fun s2 =>
      if am_in (s2.1 P0 5) 8 = true then
        fu_lt (fu_pi s2 (P0 + 8) (Int32.toNatClampNeg (s2.1 P0 5)) a2) fun s4 =>
        if am_in (s4.1 P0 5) 8 = true then
          fu_lt (fu_pi s4 (P0 + 9) (Int32.toNatClampNeg (s4.1 P0 5)) a3) fun s6 =>
          if am_in (s6.1 P0 5) 8 = true then
            fu_lt (fu_pi s6 (P0 + 10) (Int32.toNatClampNeg (s6.1 P0 5)) (s6.1 P0 2)) fun s8 =>
            if am_in (s8.1 P0 5) 8 = true then
              fu_lt (fu_pi s8 (P0 + 11) (Int32.toNatClampNeg (s8.1 P0 5)) (-1 : Int32)) fun s10 =>
              if am_in (s10.1 P0 5) 8 = true then
                fu_lt (fu_pi s10 (P0 + 12) (Int32.toNatClampNeg (s10.1 P0 5)) (-1 : Int32)) fun s12 =>
                fu_lt (fu_pi s12 P0 5 ((s12.1 P0 5) + (1 : Int32))) fun s14 =>
                some (((s14.1 P0 5) - (1 : Int32)), s14)
              else none
            else none
          else none
        else none
      else none
    else none
  else
    some ((-1 : Int32), s)
/-! X2_takeThing -/
def f_X2_takeThing (s : fu_S) : Option (Bool × fu_S) :=
  if (f_X4_things s 29) < (8 : Int32) then
    fu_lt (f_X8_next s) fun r2 =>
    Option.bind (f_X8_takePersonOf r2 29) fun r3 =>
    if r3.1 = (-1 : Int32) then
      some (false, r3.2)
    else
      Option.bind (f_X8_takeNumber r3.2 (0 : Int32) ((f_X4_kinds r3.2 29) - (1 : Int32))) fun r5 =>
      if r5.1 = (-1 : Int32) then
        some (false, r5.2)
      else
        Option.bind (f_X2_takePerhaps r5.2 (110 : Int32) (9 : Int32)) fun r7 =>
        if r7.1 = (-1 : Int32) then
          some (false, r7.2)
        else
          Option.bind (f_X4_addThing r7.2 29 r3.1 r5.1 r7.1) fun r9 =>
          some (true, r9.2)
  else
    Option.bind (f_X8_refuse s (6 : Int32)) fun r10 =>
    some (r10.1, r10.2)
/-! X2_takePart -/
def f_X2_takePart (s : fu_S) : Option (Bool × fu_S) :=
  Option.bind (f_X8_sortHere s) fun r1 =>
  if r1 = (100 : Int32) then
    Option.bind (f_X2_takeRule s (100 : Int32) (16 : Int32)) fun r3 =>
    some (r3.1, r3.2)
  else
  if r1 = (101 : Int32) then
    Option.bind (f_X2_takeRule s (101 : Int32) (59 : Int32)) fun r5 =>
    some (r5.1, r5.2)
  else
  if r1 = (102 : Int32) then
    Option.bind (f_X2_takeKind s) fun r7 =>
    some (r7.1, r7.2)
  else
  if r1 = (106 : Int32) then
    Option.bind (f_X2_takePerson s) fun r9 =>
    some (r9.1, r9.2)
  else
  if r1 = (109 : Int32) then
    Option.bind (f_X2_takeThing s) fun r11 =>
    some (r11.1, r11.2)
  else
  Option.bind (f_X8_refuse s (2 : Int32)) fun r12 =>
  some (r12.1, r12.2)
/-! X2_takeAll -/
def l_X2_takeAll_14 : Nat → fu_S → Int32 → Option ((Bool × fu_S) ⊕ (fu_S))
  | 0, _, _ => none
  | n + 1, s, x1 =>
    if x1 < (900 : Int32) then
      Option.bind (f_X8_isAtEnd s) fun r4 =>
      if r4 = true then
        some (.inr s)
      else
        Option.bind (f_X2_takePart s) fun r6 =>
        if r6.1 = true then
          Option.bind (f_X8_take r6.2 (59 : Int32)) fun r8 =>
          if r8.1 = true then
            l_X2_takeAll_14 n r8.2 (x1 + (1 : Int32))
          else
            some (.inl (false, r8.2))
        else
          some (.inl (false, r6.2))
    else
      some (.inr s)
def f_X2_takeAll (s : fu_S) : Option (Bool × fu_S) :=
  fu_lt (fu_pi s 47 2 (0 : Int32)) fun s1 =>
  fu_lt (f_X4_clear s1 29) fun r2 =>
  Option.bind (l_X2_takeAll_14 fu_N r2 (0 : Int32)) (Sum.elim (fun (a : (Bool × fu_S)) => some a) fun (r10 : fu_S) =>
    some (true, r10)
  )
/-! X3_wasRun -/
def f_X3_wasRun (s : fu_S) (P0 : Nat) : Bool :=
  (fu_tb (s.1 P0 8))
/-! X3_steps -/
def f_X3_steps (s : fu_S) (P0 : Nat) : Int32 :=
  (s.1 P0 2)
/-! X3_tally -/
def f_X3_tally (s : fu_S) (P0 : Nat) (a1 : Int32) : Int32 :=
  fu_lt (
    if a1 = 0 then
      (s.1 P0 3)
    else
      if a1 = (1 : Int32) then
        (s.1 P0 4)
      else
        if a1 = (2 : Int32) then
          (s.1 P0 5)
        else
          if a1 = (3 : Int32) then
            (s.1 P0 6)
          else
            (s.1 P0 7)
  ) fun (j1 : Int32) =>
  j1
/-! X5_lines -/
def f_X5_lines (s : fu_S) (P0 : Nat) : Int32 :=
  (s.1 P0 4)
/-! X5_hasLine -/
def f_X5_hasLine (s : fu_S) (P0 : Nat) (a1 : Int32) : Bool :=
  fu_lt (
    if a1 < 0 then
      false
    else
      if a1 < (s.1 P0 4) then
        true
      else
        false
  ) fun (j1 : Bool) =>
  j1
/-! X5_deedAt -/
def f_X5_deedAt (s : fu_S) (P0 : Nat) (a1 : Int32) : Option Int32 :=
  Option.bind (
    if (f_X5_hasLine s P0 a1) = true then
      if am_in a1 60 = true then
        some (s.1 (P0 + 1) (Int32.toNatClampNeg a1))
      else none
    else
      some (121 : Int32)
  ) fun (j1 : Int32) =>
  some j1
/-! X5_mateAt -/
def f_X5_mateAt (s : fu_S) (P0 : Nat) (a1 : Int32) : Option Int32 :=
  Option.bind (
    if (f_X5_hasLine s P0 a1) = true then
      if am_in a1 60 = true then
        some (s.1 (P0 + 4) (Int32.toNatClampNeg a1))
      else none
    else
      some (s.1 P0 4)
  ) fun (j1 : Int32) =>
  some j1
/-! X3_behindEnd -/
def f_X3_behindEnd (s : fu_S) (P0 : Nat) (P1 : Nat) (a2 : Int32) : Option (Int32 × fu_S) :=
  Option.bind (f_X5_mateAt s P1 a2) fun r1 =>
  Option.bind (f_X5_deedAt s P1 r1) fun r2 =>
  if r2 = (119 : Int32) then
    if r1 < 0 then
      some ((a2 + (1 : Int32)), s)
    else
      if r1 < (60 : Int32) then
        if am_in r1 60 = true then
          if am_in r1 60 = true then
            fu_lt (fu_pi s (P0 + 1) (Int32.toNatClampNeg r1) ((s.1 (P0 + 1) (Int32.toNatClampNeg r1)) - (1 : Int32))) fun s7 =>
            if am_in r1 60 = true then
              if (s7.1 (P0 + 1) (Int32.toNatClampNeg r1)) ≤ 0 then
                some ((a2 + (1 : Int32)), s7)
              else
                some ((r1 + (1 : Int32)), s7)
            else none
          else none
        else none
      else
        some ((a2 + (1 : Int32)), s)
  else
    some ((a2 + (1 : Int32)), s)
/-! X5_firstAt -/
def f_X5_firstAt (s : fu_S) (P0 : Nat) (a1 : Int32) : Option Int32 :=
  Option.bind (
    if (f_X5_hasLine s P0 a1) = true then
      if am_in a1 60 = true then
        some (s.1 (P0 + 2) (Int32.toNatClampNeg a1))
      else none
    else
      some (0 : Int32)
  ) fun (j1 : Int32) =>
  some j1
/-! X5_secondAt -/
def f_X5_secondAt (s : fu_S) (P0 : Nat) (a1 : Int32) : Option Int32 :=
  Option.bind (
    if (f_X5_hasLine s P0 a1) = true then
      if am_in a1 60 = true then
        some (s.1 (P0 + 3) (Int32.toNatClampNeg a1))
      else none
    else
      some (0 : Int32)
  ) fun (j1 : Int32) =>
  some j1
/-! X3_draw -/
def f_X3_draw (s : fu_S) (P0 : Nat) (a1 : Int32) : Option (Int32 × fu_S) :=
  fu_lt (fu_pi s P0 1 ((((s.1 P0 1) * (2971 : Int32)) + (10957 : Int32)) - (((s.1 P0 1) * (2971 : Int32)) + (10957 : Int32)) / (65536 : Int32) * (65536 : Int32))) fun s1 =>
  Option.bind (
    if a1 ≤ 0 then
      some (0 : Int32)
    else
      if a1 = 0 then none else
      some (((s1.1 P0 1) / (8 : Int32)) - ((s1.1 P0 1) / (8 : Int32)) / a1 * a1)
  ) fun (j2 : Int32) =>
  some (j2, s1)
/-! X4_odds -/
def f_X4_odds (s : fu_S) (P0 : Nat) : Int32 :=
  (s.1 P0 0)
/-! X4_isFound -/
def f_X4_isFound (s : fu_S) (P0 : Nat) (a1 : Int32) : Option Bool :=
  Option.bind (f_X4_isScratched s P0 a1) fun r1 =>
  Option.bind (
    if r1 = true then
      if am_in a1 8 = true then
        if (s.1 P0 2) < (s.1 (P0 + 12) (Int32.toNatClampNeg a1)) then
          some false
        else
          some true
      else none
    else
      some false
  ) fun (j2 : Bool) =>
  some j2
/-! X4_apart -/
def f_X4_apart (s : fu_S) (P0 : Nat) (a1 : Int32) (a2 : Int32) : Option Int32 :=
  Option.bind (
    if a1 < 0 then
      some false
    else
      if a1 < (s.1 P0 4) then
        if a2 < 0 then
          some false
        else
          if a2 < (s.1 P0 4) then
            some true
          else
            some false
      else
        some false
  ) fun (j1 : Bool) =>
  Option.bind (
    if j1 = true then
      if am_in a1 7 = true then
        if am_in a2 7 = true then
          some ((s.1 (P0 + 5) (Int32.toNatClampNeg a1)) - (s.1 (P0 + 5) (Int32.toNatClampNeg a2)))
        else none
      else none
    else
      some (0 : Int32)
  ) fun (j6 : Int32) =>
  Option.bind (
    if j6 < 0 then
      some (-j6)
    else
      some j6
  ) fun (j10 : Int32) =>
  some j10
/-! X4_isUp -/
def f_X4_isUp (s : fu_S) (P0 : Nat) (a1 : Int32) : Option Bool :=
  Option.bind (
    if (f_X4_hasThing s P0 a1) = true then
      if am_in a1 8 = true then
        if (s.1 (P0 + 11) (Int32.toNatClampNeg a1)) = (-1 : Int32) then
          if am_in a1 8 = true then
            Option.bind (f_X4_bearerOf s P0 a1) fun r6 =>
            if am_in a1 8 = true then
              Option.bind (f_X4_apart s P0 r6 (s.1 (P0 + 7) (Int32.toNatClampNeg a1))) fun r8 =>
              if (s.1 P0 2) < ((s.1 (P0 + 10) (Int32.toNatClampNeg a1)) + r8) then
                some false
              else
                some true
            else none
          else none
        else
          some false
      else none
    else
      some false
  ) fun (j1 : Bool) =>
  some j1
/-! X4_minute -/
def f_X4_minute (s : fu_S) (P0 : Nat) : Int32 :=
  (s.1 P0 2)
/-! X3_holds -/
def f_X3_holds (s : fu_S) (P0 : Nat) (P1 : Nat) (a2 : Int32) (a3 : Int32) : Option Bool :=
  if a2 = (60 : Int32) then
    Option.bind (
      if (f_X4_minute s P1) < a3 then
        some true
      else
        some false
    ) fun (j2 : Bool) =>
    some j2
  else
  if a2 = (62 : Int32) then
    Option.bind (
      if (f_X4_minute s P1) ≤ a3 then
        some false
      else
        some true
    ) fun (j5 : Bool) =>
    some j5
  else
  if a2 = (116 : Int32) then
    Option.bind (f_X4_isFound s P1 a3) fun r8 =>
    some r8
  else
  if a2 = (117 : Int32) then
    Option.bind (f_X4_isUp s P1 a3) fun r10 =>
    some r10
  else
  Option.bind (
    if (f_X4_minute s P1) = a3 then
      some true
    else
      some false
  ) fun (j11 : Bool) =>
  some j11
/-! X3_intoLoop -/
def f_X3_intoLoop (s : fu_S) (P0 : Nat) (P1 : Nat) (a2 : Int32) (a3 : Int32) : Option (Int32 × fu_S) :=
  Option.bind (f_X5_mateAt s P1 a2) fun r1 =>
  if a2 < 0 then
    some ((r1 + (1 : Int32)), s)
  else
    if a2 < (60 : Int32) then
      if r1 = (a2 + (1 : Int32)) then
        some ((r1 + (1 : Int32)), s)
      else
        if am_in a2 60 = true then
          fu_lt (fu_pi s (P0 + 1) (Int32.toNatClampNeg a2) a3) fun s5 =>
          some ((a2 + (1 : Int32)), s5)
        else none
    else
      some ((r1 + (1 : Int32)), s)
/-! X4_canWait -/
def f_X4_canWait (s : fu_S) (P0 : Nat) (a1 : Int32) : Bool :=
  fu_lt (
    if a1 ≤ ((9999 : Int32) - (s.1 P0 2)) then
      true
    else
      false
  ) fun (j1 : Bool) =>
  j1
/-! X4_goOn -/
def f_X4_goOn (s : fu_S) (P0 : Nat) (a1 : Int32) : fu_S :=
  fu_lt (fu_pi s P0 2 ((s.1 P0 2) + a1)) fun s1 =>
  s1
/-! X4_hasPerson -/
def f_X4_hasPerson (s : fu_S) (P0 : Nat) (a1 : Int32) : Bool :=
  fu_lt (
    if a1 < 0 then
      false
    else
      if a1 < (s.1 P0 4) then
        true
      else
        false
  ) fun (j1 : Bool) =>
  j1
/-! X4_spotOf -/
def f_X4_spotOf (s : fu_S) (P0 : Nat) (a1 : Int32) : Option Int32 :=
  Option.bind (
    if a1 < 0 then
      some (-1 : Int32)
    else
      if a1 < (s.1 P0 5) then
        if am_in a1 8 = true then
          some (s.1 (P0 + 8) (Int32.toNatClampNeg a1))
        else none
      else
        some (-1 : Int32)
  ) fun (j1 : Int32) =>
  Option.bind (
    if j1 < 0 then
      some (-1 : Int32)
    else
      if j1 < (s.1 P0 3) then
        if am_in a1 8 = true then
          if am_in j1 5 = true then
            some (((s.1 (P0 + 7) (Int32.toNatClampNeg a1)) + (s.1 (P0 + 2) (Int32.toNatClampNeg j1))) - ((s.1 (P0 + 7) (Int32.toNatClampNeg a1)) + (s.1 (P0 + 2) (Int32.toNatClampNeg j1))) / (10 : Int32) * (10 : Int32))
          else none
        else none
      else
        some (-1 : Int32)
  ) fun (j5 : Int32) =>
  some j5
/-! X4_isSpot -/
def f_X4_isSpot (P0 : Nat) (a1 : Int32) : Bool :=
  fu_lt (
    if a1 < 0 then
      false
    else
      if a1 < (10 : Int32) then
        true
      else
        false
  ) fun (j1 : Bool) =>
  j1
/-! X4_reaches -/
def f_X4_reaches (s : fu_S) (P0 : Nat) (a1 : Int32) (a2 : Int32) : Option Bool :=
  Option.bind (
    if (f_X4_hasPerson s P0 a1) = true then
      if (f_X4_isSpot P0 a2) = true then
        if am_in a1 7 = true then
          if (((s.1 (P0 + 6) (Int32.toNatClampNeg a1)) >>> (a2 &&& 31)) &&& (1 : Int32)) = 0 then
            some false
          else
            some true
        else none
      else
        some false
    else
      some false
  ) fun (j1 : Bool) =>
  some j1
/-! X4_isAble -/
def f_X4_isAble (s : fu_S) (P0 : Nat) (a1 : Int32) (a2 : Int32) : Option Bool :=
  Option.bind (f_X4_bearerOf s P0 a2) fun r1 =>
  Option.bind (
    if a1 = r1 then
      Option.bind (f_X4_spotOf s P0 a2) fun r4 =>
      Option.bind (f_X4_reaches s P0 a1 r4) fun r5 =>
      some r5
    else
      Option.bind (f_X4_apart s P0 a1 r1) fun r6 =>
      if r6 ≤ (s.1 P0 1) then
        some true
      else
        some false
  ) fun (j2 : Bool) =>
  some j2
/-! X4_canScratchNow -/
def f_X4_canScratchNow (s : fu_S) (P0 : Nat) (a1 : Int32) (a2 : Int32) : Option Bool :=
  Option.bind (
    if (f_X4_hasPerson s P0 a1) = true then
      Option.bind (f_X4_isUp s P0 a2) fun r3 =>
      if r3 = true then
        Option.bind (f_X4_isAble s P0 a1 a2) fun r5 =>
        if r5 = true then
          some true
        else
          some false
      else
        some false
    else
      some false
  ) fun (j1 : Bool) =>
  some j1
/-! X4_delayOf -/
def f_X4_delayOf (s : fu_S) (P0 : Nat) (a1 : Int32) : Option Int32 :=
  Option.bind (
    if (f_X4_hasThing s P0 a1) = true then
      Option.bind (f_X4_bearerOf s P0 a1) fun r3 =>
      if am_in a1 8 = true then
        Option.bind (f_X4_apart s P0 r3 (s.1 (P0 + 7) (Int32.toNatClampNeg a1))) fun r5 =>
        some r5
      else none
    else
      some (0 : Int32)
  ) fun (j1 : Int32) =>
  some j1
/-! X4_endItch -/
def f_X4_endItch (s : fu_S) (P0 : Nat) (a1 : Int32) : Option fu_S :=
  Option.bind (
    if (f_X4_hasThing s P0 a1) = true then
      if am_in a1 8 = true then
        fu_lt (fu_pi s (P0 + 11) (Int32.toNatClampNeg a1) (s.1 P0 2)) fun s3 =>
        Option.bind (f_X4_delayOf s3 P0 a1) fun r5 =>
        if am_in a1 8 = true then
          fu_lt (fu_pi s3 (P0 + 12) (Int32.toNatClampNeg a1) ((s3.1 P0 2) + r5)) fun s6 =>
          some s6
        else none
      else none
    else
      some s
  ) fun (j1 : fu_S) =>
  some j1
/-! X3_isDone -/
def f_X3_isDone (s : fu_S) (P0 : Nat) (P1 : Nat) (a2 : Int32) (a3 : Int32) (a4 : Int32) : Option (Bool × fu_S) :=
  if a2 = (112 : Int32) then
    if (f_X4_canWait s P1 a3) = true then
      fu_lt (f_X4_goOn s P1 a3) fun r3 =>
      fu_lt (fu_pi r3 P0 4 ((r3.1 P0 4) + a3)) fun s4 =>
      some (true, s4)
    else
      if a2 = (111 : Int32) then
        Option.bind (f_X4_addThing s P1 a3 a4 (1 : Int32)) fun r6 =>
        if r6.1 = (-1 : Int32) then
          if a2 = (113 : Int32) then
            Option.bind (f_X4_canScratchNow r6.2 P1 a3 a4) fun r9 =>
            if r9 = true then
              Option.bind (f_X4_endItch r6.2 P1 a4) fun r11 =>
              fu_lt (fu_pi r11 P0 6 ((r11.1 P0 6) + (1 : Int32))) fun s12 =>
              some (true, s12)
            else
              some (false, r6.2)
          else
            some (false, r6.2)
        else
          fu_lt (fu_pi r6.2 P0 5 ((r6.2.1 P0 5) + (1 : Int32))) fun s13 =>
          some (true, s13)
      else
        if a2 = (113 : Int32) then
          Option.bind (f_X4_canScratchNow s P1 a3 a4) fun r15 =>
          if r15 = true then
            Option.bind (f_X4_endItch s P1 a4) fun r17 =>
            fu_lt (fu_pi r17 P0 6 ((r17.1 P0 6) + (1 : Int32))) fun s18 =>
            some (true, s18)
          else
            some (false, s)
        else
          some (false, s)
  else
    if a2 = (111 : Int32) then
      Option.bind (f_X4_addThing s P1 a3 a4 (1 : Int32)) fun r20 =>
      if r20.1 = (-1 : Int32) then
        if a2 = (113 : Int32) then
          Option.bind (f_X4_canScratchNow r20.2 P1 a3 a4) fun r23 =>
          if r23 = true then
            Option.bind (f_X4_endItch r20.2 P1 a4) fun r25 =>
            fu_lt (fu_pi r25 P0 6 ((r25.1 P0 6) + (1 : Int32))) fun s26 =>
            some (true, s26)
          else
            some (false, r20.2)
        else
          some (false, r20.2)
      else
        fu_lt (fu_pi r20.2 P0 5 ((r20.2.1 P0 5) + (1 : Int32))) fun s27 =>
        some (true, s27)
    else
      if a2 = (113 : Int32) then
        Option.bind (f_X4_canScratchNow s P1 a3 a4) fun r29 =>
        if r29 = true then
          Option.bind (f_X4_endItch s P1 a4) fun r31 =>
          fu_lt (fu_pi r31 P0 6 ((r31.1 P0 6) + (1 : Int32))) fun s32 =>
          some (true, s32)
        else
          some (false, s)
      else
        some (false, s)
/-! X3_behindStep -/
def f_X3_behindStep (s : fu_S) (P0 : Nat) (P1 : Nat) (P2 : Nat) (a3 : Int32) : Option (Int32 × fu_S) :=
  Option.bind (f_X5_deedAt s P1 a3) fun r1 =>
  Option.bind (f_X5_firstAt s P1 a3) fun r2 =>
  Option.bind (f_X5_secondAt s P1 a3) fun r3 =>
  Option.bind (
    if r1 = (114 : Int32) then
      if (f_X4_people s P2) ≤ 0 then
        some (r1, r2, r3, s)
      else
        if (f_X4_things s P2) ≤ 0 then
          some (r1, r2, r3, s)
        else
          Option.bind (f_X3_draw s P0 (f_X4_people s P2)) fun r8 =>
          Option.bind (f_X3_draw r8.2 P0 (f_X4_things r8.2 P2)) fun r9 =>
          Option.bind (f_X3_draw r9.2 P0 (16 : Int32)) fun r10 =>
          Option.bind (
            if r10.1 < (f_X4_odds r10.2 P2) then
              some (113 : Int32)
            else
              some (112 : Int32)
          ) fun (j11 : Int32) =>
          Option.bind (
            if j11 = (112 : Int32) then
              some (1 : Int32)
            else
              some r8.1
          ) fun (j13 : Int32) =>
          some (j11, j13, r9.1, r10.2)
    else
      some (r1, r2, r3, s)
  ) fun (j4 : Int32 × Int32 × Int32 × fu_S) =>
  if j4.1 = (115 : Int32) then
    Option.bind (f_X3_holds j4.2.2.2 P0 P2 j4.2.1 j4.2.2.1) fun r16 =>
    Option.bind (
      if r16 = true then
        some (a3 + (1 : Int32))
      else
        Option.bind (f_X5_mateAt j4.2.2.2 P1 a3) fun r19 =>
        some (r19 + (1 : Int32))
    ) fun (j17 : Int32) =>
    some (j17, j4.2.2.2)
  else
    if j4.1 = (119 : Int32) then
      Option.bind (f_X3_intoLoop j4.2.2.2 P0 P1 a3 j4.2.1) fun r21 =>
      some (r21.1, r21.2)
    else
      Option.bind (f_X3_isDone j4.2.2.2 P0 P2 j4.1 j4.2.1 j4.2.2.1) fun r22 =>
      Option.bind (
        if r22.1 = true then
          some false
        else
          some true
      ) fun (j23 : Bool) =>
      fu_lt (fu_pi r22.2 P0 3 ((j4.2.2.2.1 P0 3) + (fu_b j23))) fun s25 =>
      some ((a3 + (1 : Int32)), s25)
/-! X3_run -/
def l_X3_run_46 : Nat → fu_S → Nat → Nat → Nat → Int32 → Int32 → Option (fu_S ⊕ (fu_S))
  | 0, _, _, _, _, _, _ => none
  | n + 1, s, P0, P1, P2, x4, x5 =>
    if x5 < (1000000 : Int32) then
      if x4 < 0 then
        some (.inr s)
      else
        if x4 < (f_X5_lines s P1) then
          Option.bind (f_X5_deedAt s P1 x4) fun r12 =>
          if r12 = (120 : Int32) then
            Option.bind (f_X3_behindEnd s P0 P1 x4) fun r14 =>
            l_X3_run_46 n r14.2 P0 P1 P2 r14.1 (x5 + (1 : Int32))
          else
            if (s.1 P0 2) < (300 : Int32) then
              fu_lt (fu_pi s P0 2 ((s.1 P0 2) + (1 : Int32))) fun s16 =>
              if r12 = (121 : Int32) then
                some (.inl s16)
              else
                Option.bind (f_X3_behindStep s16 P0 P1 P2 x4) fun r18 =>
                l_X3_run_46 n r18.2 P0 P1 P2 r18.1 (x5 + (1 : Int32))
            else
              fu_lt (fu_pi s P0 7 (1 : Int32)) fun s19 =>
              some (.inl s19)
        else
          some (.inr s)
    else
      some (.inr s)
def f_X3_run (s : fu_S) (P0 : Nat) (P1 : Nat) (P2 : Nat) (a3 : Int32) : Option fu_S :=
  fu_lt (fu_pi s P0 1 a3) fun s1 =>
  fu_lt (fu_pi s1 P0 2 (0 : Int32)) fun s2 =>
  fu_lt (fu_pi s2 P0 3 (0 : Int32)) fun s3 =>
  fu_lt (fu_pi s3 P0 4 (0 : Int32)) fun s4 =>
  fu_lt (fu_pi s4 P0 5 (0 : Int32)) fun s5 =>
  fu_lt (fu_pi s5 P0 6 (0 : Int32)) fun s6 =>
  fu_lt (fu_pi s6 P0 7 (0 : Int32)) fun s7 =>
  fu_lt (fu_pi s7 P0 8 (fu_b true)) fun s8 =>
  Option.bind (l_X3_run_46 fu_N s8 P0 P1 P2 (0 : Int32) (0 : Int32)) (Sum.elim (fun (a : fu_S) => some a) fun (r20 : fu_S) =>
    some r20
  )
/-! X4_copyFrom -/
def f_X4_copyFrom (s : fu_S) (P0 : Nat) (P1 : Nat) : fu_S :=
  fu_lt (fu_pi s P0 0 (s.1 P1 0)) fun s1 =>
  fu_lt (fu_pi s1 P0 1 (s1.1 P1 1)) fun s2 =>
  fu_lt (fu_pi s2 P0 2 (s2.1 P1 2)) fun s3 =>
  fu_lt (fu_pi s3 P0 3 (s3.1 P1 3)) fun s4 =>
  fu_lt (fu_pi s4 P0 4 (s4.1 P1 4)) fun s5 =>
  fu_lt (fu_pi s5 P0 5 (s5.1 P1 5)) fun s6 =>
  fu_lt (fu_ci s6 (P1 + 1) 0 (P0 + 1) 0 5) fun s7 =>
  fu_lt (fu_ci s7 (P1 + 2) 0 (P0 + 2) 0 5) fun s8 =>
  fu_lt (fu_ci s8 (P1 + 3) 0 (P0 + 3) 0 5) fun s9 =>
  fu_lt (fu_cl s9 (P1 + 4) 0 (P0 + 4) 0 7) fun s10 =>
  fu_lt (fu_ci s10 (P1 + 5) 0 (P0 + 5) 0 7) fun s11 =>
  fu_lt (fu_ci s11 (P1 + 6) 0 (P0 + 6) 0 7) fun s12 =>
  fu_lt (fu_ci s12 (P1 + 7) 0 (P0 + 7) 0 8) fun s13 =>
  fu_lt (fu_ci s13 (P1 + 8) 0 (P0 + 8) 0 8) fun s14 =>
  fu_lt (fu_ci s14 (P1 + 9) 0 (P0 + 9) 0 8) fun s15 =>
  fu_lt (fu_ci s15 (P1 + 10) 0 (P0 + 10) 0 8) fun s16 =>
  fu_lt (fu_ci s16 (P1 + 11) 0 (P0 + 11) 0 8) fun s17 =>
  fu_lt (fu_ci s17 (P1 + 12) 0 (P0 + 12) 0 8) fun s18 =>
  s18
/-! X4_arm -/
def f_X4_arm (s : fu_S) (P0 : Nat) : Int32 :=
  (s.1 P0 1)
/-! X4_isHome -/
def f_X4_isHome (P0 : Nat) (a1 : Int32) : Bool :=
  fu_lt (
    if a1 < 0 then
      false
    else
      if a1 ≤ (59 : Int32) then
        true
      else
        false
  ) fun (j1 : Bool) =>
  j1
/-! X4_isThingSet -/
def f_X4_isThingSet (s : fu_S) (P0 : Nat) (a1 : Int32) : Bool :=
  fu_lt (
    if a1 < 0 then
      false
    else
      if a1 < ((1 : Int32) <<< ((s.1 P0 5) &&& 31)) then
        true
      else
        false
  ) fun (j1 : Bool) =>
  j1
/-! X4_isForKind -/
def f_X4_isForKind (P0 : Nat) (a1 : Int32) (a2 : Int32) : Bool :=
  fu_lt (
    if a1 = 0 then
      if a2 < (1 : Int32) then
        false
      else
        if a2 ≤ (9 : Int32) then
          true
        else
          false
    else
      if a1 = (1 : Int32) then
        (f_X4_isSpot P0 a2)
      else
        if a1 = (2 : Int32) then
          if a2 < (1 : Int32) then
            false
          else
            if a2 ≤ (9 : Int32) then
              true
            else
              false
        else
          false
  ) fun (j1 : Bool) =>
  j1
/-! X4_changeKind -/
def f_X4_changeKind (s : fu_S) (P0 : Nat) (a1 : Int32) (a2 : Int32) (a3 : Int32) : Option fu_S :=
  if (f_X4_hasKind s P0 a1) = true then
    Option.bind (
      if a2 = 0 then
        if am_in a1 5 = true then
          fu_lt (fu_pi s (P0 + 1) (Int32.toNatClampNeg a1) a3) fun s4 =>
          some s4
        else none
      else
        if a2 = (1 : Int32) then
          if am_in a1 5 = true then
            fu_lt (fu_pi s (P0 + 2) (Int32.toNatClampNeg a1) a3) fun s7 =>
            some s7
          else none
        else
          if am_in a1 5 = true then
            fu_lt (fu_pi s (P0 + 3) (Int32.toNatClampNeg a1) a3) fun s9 =>
            some s9
          else none
    ) fun (j2 : fu_S) =>
    some j2
  else
    some s
/-! X4_homeOf -/
def f_X4_homeOf (s : fu_S) (P0 : Nat) (a1 : Int32) : Option Int32 :=
  Option.bind (
    if (f_X4_hasPerson s P0 a1) = true then
      if am_in a1 7 = true then
        some (s.1 (P0 + 5) (Int32.toNatClampNeg a1))
      else none
    else
      some (0 : Int32)
  ) fun (j1 : Int32) =>
  some j1
/-! X4_reachOf -/
def f_X4_reachOf (s : fu_S) (P0 : Nat) (a1 : Int32) : Option Int32 :=
  Option.bind (
    if (f_X4_hasPerson s P0 a1) = true then
      if am_in a1 7 = true then
        some (s.1 (P0 + 6) (Int32.toNatClampNeg a1))
      else none
    else
      some (0 : Int32)
  ) fun (j1 : Int32) =>
  some j1
/-! X4_toggleReach -/
def f_X4_toggleReach (s : fu_S) (P0 : Nat) (a1 : Int32) (a2 : Int32) : Option fu_S :=
  Option.bind (
    if (f_X4_hasPerson s P0 a1) = true then
      if (f_X4_isSpot P0 a2) = true then
        if am_in a1 7 = true then
          if am_in a1 7 = true then
            fu_lt (fu_pi s (P0 + 6) (Int32.toNatClampNeg a1) ((s.1 (P0 + 6) (Int32.toNatClampNeg a1)) ^^^ ((1 : Int32) <<< (a2 &&& 31)))) fun s5 =>
            some s5
          else none
        else none
      else
        some s
    else
      some s
  ) fun (j1 : fu_S) =>
  some j1
/-! X4_settle -/
def f_X4_settle (s : fu_S) (P0 : Nat) (a1 : Int32) (a2 : Int32) : Option fu_S :=
  Option.bind (
    if (f_X4_hasPerson s P0 a1) = true then
      if am_in a1 7 = true then
        fu_lt (fu_pi s (P0 + 5) (Int32.toNatClampNeg a1) a2) fun s3 =>
        some s3
      else none
    else
      some s
  ) fun (j1 : fu_S) =>
  some j1
/-! X4_kindOf -/
def f_X4_kindOf (s : fu_S) (P0 : Nat) (a1 : Int32) : Option Int32 :=
  Option.bind (
    if (f_X4_hasThing s P0 a1) = true then
      if am_in a1 8 = true then
        some (s.1 (P0 + 8) (Int32.toNatClampNeg a1))
      else none
    else
      some (-1 : Int32)
  ) fun (j1 : Int32) =>
  some j1
/-! X4_worthOf -/
def f_X4_worthOf (s : fu_S) (P0 : Nat) (a1 : Int32) : Option Int32 :=
  Option.bind (
    if (f_X4_hasThing s P0 a1) = true then
      if am_in a1 8 = true then
        some (s.1 (P0 + 9) (Int32.toNatClampNeg a1))
      else none
    else
      some (0 : Int32)
  ) fun (j1 : Int32) =>
  some j1
/-! X4_lostAtOf -/
def f_X4_lostAtOf (s : fu_S) (P0 : Nat) (a1 : Int32) : Option Int32 :=
  Option.bind (
    if (f_X4_hasThing s P0 a1) = true then
      if am_in a1 8 = true then
        some (s.1 (P0 + 10) (Int32.toNatClampNeg a1))
      else none
    else
      some (-1 : Int32)
  ) fun (j1 : Int32) =>
  some j1
/-! X4_upAtOf -/
def f_X4_upAtOf (s : fu_S) (P0 : Nat) (a1 : Int32) : Option Int32 :=
  Option.bind (
    if (f_X4_hasThing s P0 a1) = true then
      if am_in a1 8 = true then
        Option.bind (f_X4_delayOf s P0 a1) fun r4 =>
        some ((s.1 (P0 + 10) (Int32.toNatClampNeg a1)) + r4)
      else none
    else
      some (-1 : Int32)
  ) fun (j1 : Int32) =>
  some j1
/-! X4_scratchedAtOf -/
def f_X4_scratchedAtOf (s : fu_S) (P0 : Nat) (a1 : Int32) : Option Int32 :=
  Option.bind (
    if (f_X4_hasThing s P0 a1) = true then
      if am_in a1 8 = true then
        some (s.1 (P0 + 11) (Int32.toNatClampNeg a1))
      else none
    else
      some (-1 : Int32)
  ) fun (j1 : Int32) =>
  some j1
/-! X4_foundAtOf -/
def f_X4_foundAtOf (s : fu_S) (P0 : Nat) (a1 : Int32) : Option Int32 :=
  Option.bind (
    if (f_X4_hasThing s P0 a1) = true then
      if am_in a1 8 = true then
        some (s.1 (P0 + 12) (Int32.toNatClampNeg a1))
      else none
    else
      some (-1 : Int32)
  ) fun (j1 : Int32) =>
  some j1
/-! X4_soonestFound -/
def f_X4_soonestFound (s : fu_S) (P0 : Nat) (a1 : Int32) : Option Int32 :=
  Option.bind (f_X4_isScratched s P0 a1) fun r1 =>
  Option.bind (
    if r1 = true then
      Option.bind (f_X4_foundAtOf s P0 a1) fun r4 =>
      some r4
    else
      Option.bind (f_X4_upAtOf s P0 a1) fun r5 =>
      Option.bind (f_X4_delayOf s P0 a1) fun r6 =>
      some ((fu_mx (s.1 P0 2) r5) + r6)
  ) fun (j2 : Int32) =>
  some j2
/-! X4_ableSetFor -/
def l_X4_ableSetFor_4 : Nat → fu_S → Nat → Int32 → Int32 → Int32 → Option (Int32)
  | 0, _, _, _, _, _ => none
  | n + 1, s, P0, x1, x2, x3 =>
    if x3 < (s.1 P0 4) then
      Option.bind (f_X4_isAble s P0 x3 x1) fun r2 =>
      Option.bind (
        if r2 = true then
          some ((1 : Int32) <<< (x3 &&& 31))
        else
          some (0 : Int32)
      ) fun (j3 : Int32) =>
      l_X4_ableSetFor_4 n s P0 x1 (x2 ||| j3) (x3 + (1 : Int32))
    else
      some x2
def f_X4_ableSetFor (s : fu_S) (P0 : Nat) (a1 : Int32) : Option Int32 :=
  Option.bind (l_X4_ableSetFor_4 fu_N s P0 a1 (0 : Int32) (0 : Int32)) fun (r5 : Int32) =>
  some r5
/-! X4_upSet -/
def l_X4_upSet_4 : Nat → fu_S → Nat → Int32 → Int32 → Option (Int32)
  | 0, _, _, _, _ => none
  | n + 1, s, P0, x1, x2 =>
    if x2 < (s.1 P0 5) then
      Option.bind (f_X4_isUp s P0 x2) fun r2 =>
      Option.bind (
        if r2 = true then
          some ((1 : Int32) <<< (x2 &&& 31))
        else
          some (0 : Int32)
      ) fun (j3 : Int32) =>
      l_X4_upSet_4 n s P0 (x1 ||| j3) (x2 + (1 : Int32))
    else
      some x1
def f_X4_upSet (s : fu_S) (P0 : Nat) : Option Int32 :=
  Option.bind (l_X4_upSet_4 fu_N s P0 (0 : Int32) (0 : Int32)) fun (r5 : Int32) =>
  some r5
/-! X4_upSetOn -/
def l_X4_upSetOn_4 : Nat → fu_S → Nat → Int32 → Int32 → Int32 → Option (Int32)
  | 0, _, _, _, _, _ => none
  | n + 1, s, P0, x1, x2, x3 =>
    if x3 < (s.1 P0 5) then
      Option.bind (f_X4_bearerOf s P0 x3) fun r2 =>
      Option.bind (
        if r2 = x1 then
          Option.bind (f_X4_isUp s P0 x3) fun r5 =>
          if r5 = true then
            some ((1 : Int32) <<< (x3 &&& 31))
          else
            some (0 : Int32)
        else
          some (0 : Int32)
      ) fun (j3 : Int32) =>
      l_X4_upSetOn_4 n s P0 x1 (x2 ||| j3) (x3 + (1 : Int32))
    else
      some x2
def f_X4_upSetOn (s : fu_S) (P0 : Nat) (a1 : Int32) : Option Int32 :=
  Option.bind (l_X4_upSetOn_4 fu_N s P0 a1 (0 : Int32) (0 : Int32)) fun (r7 : Int32) =>
  some r7
/-! X4_upSetFor -/
def l_X4_upSetFor_4 : Nat → fu_S → Nat → Int32 → Int32 → Int32 → Option (Int32)
  | 0, _, _, _, _, _ => none
  | n + 1, s, P0, x1, x2, x3 =>
    if x3 < (s.1 P0 5) then
      Option.bind (f_X4_canScratchNow s P0 x1 x3) fun r2 =>
      Option.bind (
        if r2 = true then
          some ((1 : Int32) <<< (x3 &&& 31))
        else
          some (0 : Int32)
      ) fun (j3 : Int32) =>
      l_X4_upSetFor_4 n s P0 x1 (x2 ||| j3) (x3 + (1 : Int32))
    else
      some x2
def f_X4_upSetFor (s : fu_S) (P0 : Nat) (a1 : Int32) : Option Int32 :=
  Option.bind (l_X4_upSetFor_4 fu_N s P0 a1 (0 : Int32) (0 : Int32)) fun (r5 : Int32) =>
  some r5
/-! X4_ownSetOf -/
def l_X4_ownSetOf_4 : Nat → fu_S → Nat → Int32 → Int32 → Int32 → Option (Int32)
  | 0, _, _, _, _, _ => none
  | n + 1, s, P0, x1, x2, x3 =>
    if x3 < (s.1 P0 5) then
      Option.bind (f_X4_ownerOf s P0 x3) fun r2 =>
      Option.bind (
        if r2 = x1 then
          some ((1 : Int32) <<< (x3 &&& 31))
        else
          some (0 : Int32)
      ) fun (j3 : Int32) =>
      l_X4_ownSetOf_4 n s P0 x1 (x2 ||| j3) (x3 + (1 : Int32))
    else
      some x2
def f_X4_ownSetOf (s : fu_S) (P0 : Nat) (a1 : Int32) : Option Int32 :=
  Option.bind (l_X4_ownSetOf_4 fu_N s P0 a1 (0 : Int32) (0 : Int32)) fun (r5 : Int32) =>
  some r5
/-! X4_foundSet -/
def l_X4_foundSet_4 : Nat → fu_S → Nat → Int32 → Int32 → Option (Int32)
  | 0, _, _, _, _ => none
  | n + 1, s, P0, x1, x2 =>
    if x2 < (s.1 P0 5) then
      Option.bind (f_X4_isFound s P0 x2) fun r2 =>
      Option.bind (
        if r2 = true then
          some ((1 : Int32) <<< (x2 &&& 31))
        else
          some (0 : Int32)
      ) fun (j3 : Int32) =>
      l_X4_foundSet_4 n s P0 (x1 ||| j3) (x2 + (1 : Int32))
    else
      some x1
def f_X4_foundSet (s : fu_S) (P0 : Nat) : Option Int32 :=
  Option.bind (l_X4_foundSet_4 fu_N s P0 (0 : Int32) (0 : Int32)) fun (r5 : Int32) =>
  some r5
/-! X5_isThere -/
def f_X5_isThere (s : fu_S) (P0 : Nat) : Bool :=
  (fu_tb (s.1 P0 6))
/-! X5_steps -/
def f_X5_steps (s : fu_S) (P0 : Nat) : Int32 :=
  (s.1 P0 5)
/-! X5_forget -/
def f_X5_forget (s : fu_S) (P0 : Nat) : fu_S :=
  fu_lt (fu_pi s P0 4 (0 : Int32)) fun s1 =>
  fu_lt (fu_pi s1 P0 5 (0 : Int32)) fun s2 =>
  fu_lt (fu_pi s2 P0 6 (fu_b false)) fun s3 =>
  s3
/-! X5_begin -/
def f_X5_begin (s : fu_S) (P0 : Nat) : fu_S :=
  fu_lt (f_X5_forget s P0) fun r1 =>
  fu_lt (fu_pi r1 P0 6 (fu_b true)) fun s2 =>
  s2
/-! X5_addLine -/
def f_X5_addLine (s : fu_S) (P0 : Nat) (a1 : Int32) (a2 : Int32) (a3 : Int32) (a4 : Int32) : Option (Bool × fu_S) :=
  if (s.1 P0 4) < (60 : Int32) then
    if am_in (s.1 P0 4) 60 = true then
      fu_lt (fu_pi s (P0 + 1) (Int32.toNatClampNeg (s.1 P0 4)) a1) fun s2 =>
      if am_in (s2.1 P0 4) 60 = true then
        fu_lt (fu_pi s2 (P0 + 2) (Int32.toNatClampNeg (s2.1 P0 4)) a2) fun s4 =>
        if am_in (s4.1 P0 4) 60 = true then
          fu_lt (fu_pi s4 (P0 + 3) (Int32.toNatClampNeg (s4.1 P0 4)) a3) fun s6 =>
          if am_in (s6.1 P0 4) 60 = true then
            fu_lt (fu_pi s6 (P0 + 4) (Int32.toNatClampNeg (s6.1 P0 4)) a4) fun s8 =>
            fu_lt (fu_pi s8 P0 4 ((s8.1 P0 4) + (1 : Int32))) fun s10 =>
            some (true, s10)
          else none
        else none
      else none
    else none
  else
    some (false, s)
/-! X5_addStep -/
def f_X5_addStep (s : fu_S) (P0 : Nat) (a1 : Int32) (a2 : Int32) (a3 : Int32) : Option fu_S :=
  Option.bind (f_X5_addLine s P0 a1 a2 a3 (-1 : Int32)) fun r1 =>
  Option.bind (
    if r1.1 = true then
      fu_lt (fu_pi r1.2 P0 5 ((r1.2.1 P0 5) + (1 : Int32))) fun s4 =>
      some s4
    else
      some r1.2
  ) fun (j2 : fu_S) =>
  some j2
/-! X5_addEnd -/
def f_X5_addEnd (s : fu_S) (P0 : Nat) (a1 : Int32) : Option fu_S :=
  Option.bind (
    if a1 < 0 then
      some s
    else
      if a1 < (s.1 P0 4) then
        Option.bind (f_X5_addLine s P0 (120 : Int32) (0 : Int32) (0 : Int32) a1) fun r4 =>
        if r4.1 = true then
          if am_in a1 60 = true then
            fu_lt (fu_pi r4.2 (P0 + 4) (Int32.toNatClampNeg a1) (s.1 P0 4)) fun s6 =>
            some s6
          else none
        else
          some r4.2
      else
        some s
  ) fun (j1 : fu_S) =>
  some j1
/-! X5_copyFrom -/
def f_X5_copyFrom (s : fu_S) (P0 : Nat) (P1 : Nat) : fu_S :=
  fu_lt (fu_ci s (P1 + 1) 0 (P0 + 1) 0 60) fun s1 =>
  fu_lt (fu_ci s1 (P1 + 2) 0 (P0 + 2) 0 60) fun s2 =>
  fu_lt (fu_ci s2 (P1 + 3) 0 (P0 + 3) 0 60) fun s3 =>
  fu_lt (fu_ci s3 (P1 + 4) 0 (P0 + 4) 0 60) fun s4 =>
  fu_lt (fu_pi s4 P0 4 (s4.1 P1 4)) fun s5 =>
  fu_lt (fu_pi s5 P0 5 (s5.1 P1 5)) fun s6 =>
  fu_lt (fu_pi s6 P0 6 (fu_b (fu_tb (s6.1 P1 6)))) fun s7 =>
  s7
/-! X6_takeEnd -/
def f_X6_takeEnd (s : fu_S) : Option (Bool × fu_S) :=
  if (s.1 48 4) ≤ 0 then
    Option.bind (f_X8_refuse s (2 : Int32)) fun r2 =>
    some (r2.1, r2.2)
  else
    if (s.1 48 4) ≤ (3 : Int32) then
      fu_lt (f_X8_next s) fun r4 =>
      fu_lt (fu_pi r4 48 4 ((r4.1 48 4) - (1 : Int32))) fun s5 =>
      if am_in (s5.1 48 4) 3 = true then
        Option.bind (f_X5_addEnd s5 42 (s5.1 49 (Int32.toNatClampNeg (s5.1 48 4)))) fun r7 =>
        some (true, r7)
      else none
    else
      Option.bind (f_X8_refuse s (2 : Int32)) fun r8 =>
      some (r8.1, r8.2)
/-! X6_isDeed -/
def f_X6_isDeed (a0 : Int32) : Bool :=
  fu_lt (
    if a0 = (112 : Int32) then
      true
    else
      if a0 = (111 : Int32) then
        true
      else
        if a0 = (113 : Int32) then
          true
        else
          if a0 = (114 : Int32) then
            true
          else
            if a0 = (115 : Int32) then
              true
            else
              if a0 = (119 : Int32) then
                true
              else
                if a0 = (121 : Int32) then
                  true
                else
                  false
  ) fun (j1 : Bool) =>
  j1
/-! X6_takeCount -/
def f_X6_takeCount (s : fu_S) (a1 : Int32) : Option (Bool × fu_S) :=
  Option.bind (f_X8_takeNumber s (1 : Int32) (99 : Int32)) fun r1 =>
  Option.bind (f_X5_addStep r1.2 42 a1 r1.1 (0 : Int32)) fun r2 =>
  Option.bind (
    if r1.1 = (-1 : Int32) then
      some false
    else
      some true
  ) fun (j3 : Bool) =>
  some (j3, r2)
/-! X6_takeDeedOf -/
def f_X6_takeDeedOf (s : fu_S) (a1 : Int32) (a2 : Int32) : Option (Bool × fu_S) :=
  Option.bind (f_X8_takePersonOf s 11) fun r1 =>
  if r1.1 = (-1 : Int32) then
    some (false, r1.2)
  else
    Option.bind (f_X8_takeNumber r1.2 (0 : Int32) a2) fun r3 =>
    Option.bind (f_X5_addStep r3.2 42 a1 r1.1 r3.1) fun r4 =>
    Option.bind (
      if r3.1 = (-1 : Int32) then
        some false
      else
        some true
    ) fun (j5 : Bool) =>
    some (j5, r4)
/-! X6_takeTest -/
def f_X6_takeTest (s : fu_S) (a1 : Int32) : Option (Bool × fu_S) :=
  Option.bind (f_X8_sortHere s) fun r1 =>
  if r1 = (116 : Int32) then
    fu_lt (f_X8_next s) fun r3 =>
    if r1 = (118 : Int32) then
      Option.bind (f_X8_sortHere r3) fun r5 =>
      if r5 = (60 : Int32) then
        fu_lt (f_X8_next r3) fun r7 =>
        Option.bind (f_X8_takeNumber r7 (0 : Int32) (9999 : Int32)) fun r8 =>
        Option.bind (f_X5_addStep r8.2 42 a1 r5 r8.1) fun r9 =>
        Option.bind (
          if r8.1 = (-1 : Int32) then
            some false
          else
            some true
        ) fun (j10 : Bool) =>
        some (j10, r9)
      else
        if r5 = (62 : Int32) then
          fu_lt (f_X8_next r3) fun r13 =>
          Option.bind (f_X8_takeNumber r13 (0 : Int32) (9999 : Int32)) fun r14 =>
          Option.bind (f_X5_addStep r14.2 42 a1 r5 r14.1) fun r15 =>
          Option.bind (
            if r14.1 = (-1 : Int32) then
              some false
            else
              some true
          ) fun (j16 : Bool) =>
          some (j16, r15)
        else
          if r5 = (61 : Int32) then
            fu_lt (f_X8_next r3) fun r19 =>
            Option.bind (f_X8_takeNumber r19 (0 : Int32) (9999 : Int32)) fun r20 =>
            Option.bind (f_X5_addStep r20.2 42 a1 r5 r20.1) fun r21 =>
            Option.bind (
              if r20.1 = (-1 : Int32) then
                some false
              else
                some true
            ) fun (j22 : Bool) =>
            some (j22, r21)
          else
            Option.bind (f_X8_refuse r3 (2 : Int32)) fun r24 =>
            some (r24.1, r24.2)
    else
      Option.bind (f_X8_takeNumber r3 (0 : Int32) (7 : Int32)) fun r25 =>
      Option.bind (f_X5_addStep r25.2 42 a1 r1 r25.1) fun r26 =>
      Option.bind (
        if r25.1 = (-1 : Int32) then
          some false
        else
          some true
      ) fun (j27 : Bool) =>
      some (j27, r26)
  else
    if r1 = (117 : Int32) then
      fu_lt (f_X8_next s) fun r30 =>
      if r1 = (118 : Int32) then
        Option.bind (f_X8_sortHere r30) fun r32 =>
        if r32 = (60 : Int32) then
          fu_lt (f_X8_next r30) fun r34 =>
          Option.bind (f_X8_takeNumber r34 (0 : Int32) (9999 : Int32)) fun r35 =>
          Option.bind (f_X5_addStep r35.2 42 a1 r32 r35.1) fun r36 =>
          Option.bind (
            if r35.1 = (-1 : Int32) then
              some false
            else
              some true
          ) fun (j37 : Bool) =>
          some (j37, r36)
        else
          if r32 = (62 : Int32) then
            fu_lt (f_X8_next r30) fun r40 =>
            Option.bind (f_X8_takeNumber r40 (0 : Int32) (9999 : Int32)) fun r41 =>
            Option.bind (f_X5_addStep r41.2 42 a1 r32 r41.1) fun r42 =>
            Option.bind (
              if r41.1 = (-1 : Int32) then
                some false
              else
                some true
            ) fun (j43 : Bool) =>
            some (j43, r42)
          else
            if r32 = (61 : Int32) then
              fu_lt (f_X8_next r30) fun r46 =>
              Option.bind (f_X8_takeNumber r46 (0 : Int32) (9999 : Int32)) fun r47 =>
              Option.bind (f_X5_addStep r47.2 42 a1 r32 r47.1) fun r48 =>
              Option.bind (
                if r47.1 = (-1 : Int32) then
                  some false
                else
                  some true
              ) fun (j49 : Bool) =>
              some (j49, r48)
            else
              Option.bind (f_X8_refuse r30 (2 : Int32)) fun r51 =>
              some (r51.1, r51.2)
      else
        Option.bind (f_X8_takeNumber r30 (0 : Int32) (7 : Int32)) fun r52 =>
        Option.bind (f_X5_addStep r52.2 42 a1 r1 r52.1) fun r53 =>
        Option.bind (
          if r52.1 = (-1 : Int32) then
            some false
          else
            some true
        ) fun (j54 : Bool) =>
        some (j54, r53)
    else
      if r1 = (118 : Int32) then
        fu_lt (f_X8_next s) fun r57 =>
        if r1 = (118 : Int32) then
          Option.bind (f_X8_sortHere r57) fun r59 =>
          if r59 = (60 : Int32) then
            fu_lt (f_X8_next r57) fun r61 =>
            Option.bind (f_X8_takeNumber r61 (0 : Int32) (9999 : Int32)) fun r62 =>
            Option.bind (f_X5_addStep r62.2 42 a1 r59 r62.1) fun r63 =>
            Option.bind (
              if r62.1 = (-1 : Int32) then
                some false
              else
                some true
            ) fun (j64 : Bool) =>
            some (j64, r63)
          else
            if r59 = (62 : Int32) then
              fu_lt (f_X8_next r57) fun r67 =>
              Option.bind (f_X8_takeNumber r67 (0 : Int32) (9999 : Int32)) fun r68 =>
              Option.bind (f_X5_addStep r68.2 42 a1 r59 r68.1) fun r69 =>
              Option.bind (
                if r68.1 = (-1 : Int32) then
                  some false
                else
                  some true
              ) fun (j70 : Bool) =>
              some (j70, r69)
            else
              if r59 = (61 : Int32) then
                fu_lt (f_X8_next r57) fun r73 =>
                Option.bind (f_X8_takeNumber r73 (0 : Int32) (9999 : Int32)) fun r74 =>
                Option.bind (f_X5_addStep r74.2 42 a1 r59 r74.1) fun r75 =>
                Option.bind (
                  if r74.1 = (-1 : Int32) then
                    some false
                  else
                    some true
                ) fun (j76 : Bool) =>
                some (j76, r75)
              else
                Option.bind (f_X8_refuse r57 (2 : Int32)) fun r78 =>
                some (r78.1, r78.2)
        else
          Option.bind (f_X8_takeNumber r57 (0 : Int32) (7 : Int32)) fun r79 =>
          Option.bind (f_X5_addStep r79.2 42 a1 r1 r79.1) fun r80 =>
          Option.bind (
            if r79.1 = (-1 : Int32) then
              some false
            else
              some true
          ) fun (j81 : Bool) =>
          some (j81, r80)
      else
        Option.bind (f_X8_refuse s (2 : Int32)) fun r83 =>
        some (r83.1, r83.2)
/-! X6_takeRest -/
def f_X6_takeRest (s : fu_S) (a1 : Int32) : Option (Bool × fu_S) :=
  if a1 = (111 : Int32) then
    Option.bind (f_X6_takeDeedOf s a1 ((f_X4_kinds s 11) - (1 : Int32))) fun r2 =>
    some (r2.1, r2.2)
  else
  if a1 = (112 : Int32) then
    Option.bind (f_X6_takeCount s a1) fun r4 =>
    some (r4.1, r4.2)
  else
  if a1 = (113 : Int32) then
    Option.bind (f_X6_takeDeedOf s a1 (7 : Int32)) fun r6 =>
    some (r6.1, r6.2)
  else
  if a1 = (115 : Int32) then
    Option.bind (f_X6_takeTest s a1) fun r8 =>
    some (r8.1, r8.2)
  else
  if a1 = (119 : Int32) then
    Option.bind (f_X6_takeCount s a1) fun r10 =>
    some (r10.1, r10.2)
  else
  Option.bind (f_X5_addStep s 42 a1 (0 : Int32) (0 : Int32)) fun r11 =>
  some (true, r11)
/-! X6_takeStep -/
def f_X6_takeStep (s : fu_S) : Option (Bool × fu_S) :=
  Option.bind (f_X8_sortHere s) fun r1 =>
  if (f_X6_isDeed r1) = true then
    if (f_X5_steps s 42) < (30 : Int32) then
      Option.bind (
        if r1 = (115 : Int32) then
          some true
        else
          if r1 = (119 : Int32) then
            some true
          else
            some false
      ) fun (j4 : Bool) =>
      if j4 = true then
        if (s.1 48 4) < (3 : Int32) then
          Option.bind (
            if j4 = true then
              if (s.1 48 4) < 0 then
                some s
              else
                if am_in (s.1 48 4) 3 = true then
                  fu_lt (fu_pi s 49 (Int32.toNatClampNeg (s.1 48 4)) (f_X5_lines s 42)) fun s12 =>
                  fu_lt (fu_pi s12 48 4 ((s12.1 48 4) + (1 : Int32))) fun s14 =>
                  some s14
                else none
            else
              some s
          ) fun (j9 : fu_S) =>
          fu_lt (f_X8_next j9) fun r15 =>
          Option.bind (f_X6_takeRest r15 r1) fun r16 =>
          some (r16.1, r16.2)
        else
          Option.bind (f_X8_refuse s (7 : Int32)) fun r17 =>
          some (r17.1, r17.2)
      else
        Option.bind (
          if j4 = true then
            if (s.1 48 4) < 0 then
              some s
            else
              if am_in (s.1 48 4) 3 = true then
                fu_lt (fu_pi s 49 (Int32.toNatClampNeg (s.1 48 4)) (f_X5_lines s 42)) fun s21 =>
                fu_lt (fu_pi s21 48 4 ((s21.1 48 4) + (1 : Int32))) fun s23 =>
                some s23
              else none
          else
            some s
        ) fun (j18 : fu_S) =>
        fu_lt (f_X8_next j18) fun r24 =>
        Option.bind (f_X6_takeRest r24 r1) fun r25 =>
        some (r25.1, r25.2)
    else
      Option.bind (f_X8_refuse s (6 : Int32)) fun r26 =>
      some (r26.1, r26.2)
  else
    Option.bind (f_X8_refuse s (2 : Int32)) fun r27 =>
    some (r27.1, r27.2)
/-! X6_takeAll -/
def l_X6_takeAll_14 : Nat → fu_S → Int32 → Option ((Bool × fu_S) ⊕ (fu_S))
  | 0, _, _ => none
  | n + 1, s, x1 =>
    if x1 < (900 : Int32) then
      Option.bind (f_X8_isAtEnd s) fun r4 =>
      if r4 = true then
        some (.inr s)
      else
        Option.bind (f_X8_sortHere s) fun r6 =>
        Option.bind (
          if r6 = (120 : Int32) then
            Option.bind (f_X6_takeEnd s) fun r9 =>
            some (r9.1, r9.2)
          else
            Option.bind (f_X6_takeStep s) fun r10 =>
            some (r10.1, r10.2)
        ) fun (j7 : Bool × fu_S) =>
        if j7.1 = true then
          Option.bind (f_X8_take j7.2 (59 : Int32)) fun r12 =>
          if r12.1 = true then
            l_X6_takeAll_14 n r12.2 (x1 + (1 : Int32))
          else
            some (.inl (false, r12.2))
        else
          some (.inl (false, j7.2))
    else
      some (.inr s)
def f_X6_takeAll (s : fu_S) : Option (Bool × fu_S) :=
  fu_lt (fu_pi s 48 4 (0 : Int32)) fun s1 =>
  fu_lt (f_X5_begin s1 42) fun r2 =>
  Option.bind (l_X6_takeAll_14 fu_N r2 (0 : Int32)) (Sum.elim (fun (a : (Bool × fu_S)) => some a) fun (r14 : fu_S) =>
    Option.bind (
      if (r14.1 48 4) = 0 then
        some (true, r14)
      else
        Option.bind (f_X8_refuse r14 (2 : Int32)) fun r17 =>
        if r17.1 = true then
          some (true, r17.2)
        else
          some (false, r17.2)
    ) fun (j15 : Bool × fu_S) =>
    some (j15.1, j15.2)
  )
/-! X7_isSort -/
def f_X7_isSort (a1 : Int32) : Bool :=
  fu_lt (
    if a1 < 0 then
      false
    else
      if a1 < (4 : Int32) then
        true
      else
        false
  ) fun (j1 : Bool) =>
  j1
/-! X7_lengthOf -/
def f_X7_lengthOf (s : fu_S) (a1 : Int32) : Option Int32 :=
  Option.bind (f_X7_isThere s a1) fun r1 =>
  Option.bind (
    if r1 = true then
      if am_in a1 4 = true then
        some (s.1 4 (Int32.toNatClampNeg a1))
      else none
    else
      some (0 : Int32)
  ) fun (j2 : Int32) =>
  some j2
/-! X7_sortOf -/
def f_X7_sortOf (s : fu_S) (a1 : Int32) : Option Int32 :=
  Option.bind (f_X7_isThere s a1) fun r1 =>
  Option.bind (
    if r1 = true then
      if am_in a1 4 = true then
        some (s.1 3 (Int32.toNatClampNeg a1))
      else none
    else
      some (-1 : Int32)
  ) fun (j2 : Int32) =>
  some j2
/-! X7_make -/
def l_X7_make_44 : Nat → fu_S → Int32 → Int32 → Option (fu_S)
  | 0, _, _, _ => none
  | n + 1, s, x1, x4 =>
    if x4 < (60 : Int32) then
      if am_in ((x1 * (60 : Int32)) + x4) 240 = true then
        fu_lt (fu_pl s 2 (Int32.toNatClampNeg ((x1 * (60 : Int32)) + x4)) (0 : Int64)) fun s10 =>
        l_X7_make_44 n s10 x1 (x4 + (1 : Int32))
      else none
    else
      some s
def f_X7_make (s : fu_S) (a1 : Int32) (a2 : Int32) (a3 : Int32) : Option fu_S :=
  if (f_X7_isTray a1) = true then
    if (f_X7_isSort a2) = true then
      if a3 < 0 then
        some s
      else
        if a3 ≤ (60 : Int32) then
          if am_in a1 4 = true then
            fu_lt (fu_pi s 3 (Int32.toNatClampNeg a1) a2) fun s5 =>
            if am_in a1 4 = true then
              fu_lt (fu_pi s5 4 (Int32.toNatClampNeg a1) a3) fun s7 =>
              Option.bind (l_X7_make_44 fu_N s7 a1 (0 : Int32)) fun (r12 : fu_S) =>
              some r12
            else none
          else none
        else
          some s
    else
      some s
  else
    some s
/-! X7_cut -/
def f_X7_cut (a1 : Int32) (a2 : Int64) : Int64 :=
  if a1 = (0 : Int32) then
    (Int32.toInt64 (Int8.toInt32 (Int32.toInt8 (Int64.toInt32 a2))))
  else
  if a1 = (1 : Int32) then
    (Int32.toInt64 (Int16.toInt32 (Int32.toInt16 (Int64.toInt32 a2))))
  else
  if a1 = (2 : Int32) then
    (Int32.toInt64 (Int64.toInt32 a2))
  else
  a2
/-! X7_put -/
def f_X7_put (s : fu_S) (a1 : Int32) (a2 : Int32) (a3 : Int64) : Option fu_S :=
  Option.bind (f_X7_hasPlaces s a1 a2 (1 : Int32)) fun r1 =>
  Option.bind (
    if r1 = true then
      if am_in a1 4 = true then
        if am_in ((a1 * (60 : Int32)) + a2) 240 = true then
          fu_lt (fu_pl s 2 (Int32.toNatClampNeg ((a1 * (60 : Int32)) + a2)) (f_X7_cut (s.1 3 (Int32.toNatClampNeg a1)) a3)) fun s5 =>
          some s5
        else none
      else none
    else
      some s
  ) fun (j2 : fu_S) =>
  some j2
/-! X7_transfer -/
def f_X7_transfer (s : fu_S) (a1 : Int32) (a2 : Int32) (a3 : Int32) (a4 : Int32) (a5 : Int32) : Option fu_S :=
  Option.bind (f_X7_hasPlaces s a1 a2 a5) fun r1 =>
  Option.bind (
    if r1 = true then
      Option.bind (f_X7_hasPlaces s a3 a4 a5) fun r4 =>
      if r4 = true then
        if ¬ ((a1 * (60 : Int32)) + a2) < 0 ∧ ¬ ((a3 * (60 : Int32)) + a4) < 0 ∧ ¬ a5 < 0 ∧ (Int32.toNatClampNeg ((a1 * (60 : Int32)) + a2)) + (Int32.toNatClampNeg a5) ≤ 240 ∧ (Int32.toNatClampNeg ((a3 * (60 : Int32)) + a4)) + (Int32.toNatClampNeg a5) ≤ 240 then
          fu_lt (fu_cl s 2 (Int32.toNatClampNeg ((a1 * (60 : Int32)) + a2)) 2 (Int32.toNatClampNeg ((a3 * (60 : Int32)) + a4)) (Int32.toNatClampNeg a5)) fun s6 =>
          some s6
        else none
      else
        some s
    else
      some s
  ) fun (j2 : fu_S) =>
  some j2
/-! X8_withLetter -/
def f_X8_withLetter (a0 : Int64) (a1 : Int32) : Int64 :=
  ((a0 * (32 : Int64)) + (Int32.toInt64 ((a1 - (97 : Int32)) + (1 : Int32))))
/-! X8_size -/
def f_X8_size (s : fu_S) : Int32 :=
  (s.1 5 2)
/-! X8_faultKind -/
def f_X8_faultKind (s : fu_S) : Int32 :=
  (s.1 5 8)
/-! X8_faultPlace -/
def f_X8_faultPlace (s : fu_S) : Int32 :=
  (s.1 5 9)
/-! X8_hasRoomFor -/
def f_X8_hasRoomFor (s : fu_S) (a1 : Int32) : Bool :=
  fu_lt (
    if a1 ≤ ((900 : Int32) - (s.1 5 2)) then
      true
    else
      false
  ) fun (j1 : Bool) =>
  j1
/-! X8_append -/
def l_X8_append_3 : Nat → fu_S → Int32 → Int32 → Option (fu_S)
  | 0, _, _, _ => none
  | n + 1, s, x1, x2 =>
    if x2 < 0 then
      some s
    else
      Option.bind (
        if (s.1 5 2) < (900 : Int32) then
          if am_in (s.1 5 2) 900 = true then
            fu_lt (fu_pi s 7 (Int32.toNatClampNeg (s.1 5 2)) (fu_by (Int8.toInt32 (Int32.toInt8 (x1 >>> (x2 &&& 31)))))) fun s4 =>
            fu_lt (fu_pi s4 5 2 ((s4.1 5 2) + (1 : Int32))) fun s6 =>
            some s6
          else none
        else
          some s
      ) fun (j2 : fu_S) =>
      l_X8_append_3 n j2 x1 (x2 + (-8 : Int32))
def f_X8_append (s : fu_S) (a1 : Int32) : Option fu_S :=
  Option.bind (l_X8_append_3 fu_N s a1 (24 : Int32)) fun (r7 : fu_S) =>
  some r7
/-! X8_wipe -/
def f_X8_wipe (s : fu_S) : fu_S :=
  fu_lt (fu_pi s 5 2 (0 : Int32)) fun s1 =>
  s1
/-! X8_isBlank -/
def f_X8_isBlank (a0 : Int32) : Bool :=
  fu_lt (
    if a0 = (10 : Int32) then
      true
    else
      if a0 = (32 : Int32) then
        true
      else
        false
  ) fun (j1 : Bool) =>
  j1
/-! X8_isLetter -/
def f_X8_isLetter (a0 : Int32) : Bool :=
  fu_lt (
    if a0 < (97 : Int32) then
      false
    else
      if a0 ≤ (122 : Int32) then
        true
      else
        false
  ) fun (j1 : Bool) =>
  j1
/-! X8_add -/
def f_X8_add (s : fu_S) (a1 : Int32) (a2 : Int32) (a3 : Int64) : Option fu_S :=
  Option.bind (
    if (s.1 5 6) ≤ (900 : Int32) then
      if am_in (s.1 5 6) 901 = true then
        fu_lt (fu_pi s 8 (Int32.toNatClampNeg (s.1 5 6)) a1) fun s3 =>
        if am_in (s3.1 5 6) 901 = true then
          fu_lt (fu_pi s3 9 (Int32.toNatClampNeg (s3.1 5 6)) a2) fun s5 =>
          if am_in (s5.1 5 6) 901 = true then
            fu_lt (fu_pl s5 10 (Int32.toNatClampNeg (s5.1 5 6)) a3) fun s7 =>
            fu_lt (fu_pi s7 5 6 ((s7.1 5 6) + (1 : Int32))) fun s9 =>
            some s9
          else none
        else none
      else none
    else
      some s
  ) fun (j1 : fu_S) =>
  some j1
/-! X8_takeWord -/
def l_X8_takeWord_5 : Nat → fu_S → Int32 → Int32 → Int64 → Int32 → Option (Int64 × Int32)
  | 0, _, _, _, _, _ => none
  | n + 1, s, x1, x2, x3, x5 =>
    if x5 < x2 then
      if am_in x5 900 = true then
        if (f_X8_isLetter (s.1 7 (Int32.toNatClampNeg x5))) = true then
          Option.bind (
            if (x5 - x1) < (8 : Int32) then
              if am_in x5 900 = true then
                some (f_X8_withLetter x3 (s.1 7 (Int32.toNatClampNeg x5)))
              else none
            else
              some (-1 : Int64)
          ) fun (j4 : Int64) =>
          l_X8_takeWord_5 n s x1 x2 j4 (x5 + (1 : Int32))
        else
          some (x3, x5)
      else none
    else
      some (x3, x5)
def l_X8_takeWord_75 : Nat → fu_S → Int32 → Int64 → Int32 → Int32 → Int32 → Option (Int32)
  | 0, _, _, _, _, _, _ => none
  | n + 1, s, x1, x3, x5, x6, x7 =>
    if x7 < (22 : Int32) then
      if am_in x7 22 = true then
        Option.bind (
          if (s.2 6 (Int32.toNatClampNeg x7)) = x3 then
            some ((100 : Int32) + x7)
          else
            some x6
        ) fun (j12 : Int32) =>
        l_X8_takeWord_75 n s x1 x3 x5 j12 (x7 + (1 : Int32))
      else none
    else
      some x6
def f_X8_takeWord (s : fu_S) (a1 : Int32) (a2 : Int32) : Option (Int32 × fu_S) :=
  Option.bind (l_X8_takeWord_5 fu_N s a1 a2 (0 : Int64) a1) fun (r7 : Int64 × Int32) =>
  Option.bind (
    if r7.1 = (-1 : Int64) then
      some (4 : Int32)
    else
      some (3 : Int32)
  ) fun (j8 : Int32) =>
  Option.bind (l_X8_takeWord_75 fu_N s a1 r7.1 r7.2 j8 (0 : Int32)) fun (r14 : Int32) =>
  Option.bind (f_X8_add s r14 a1 r7.1) fun r15 =>
  some (r7.2, r15)
/-! X8_isDigit -/
def f_X8_isDigit (a0 : Int32) : Bool :=
  fu_lt (
    if a0 < (48 : Int32) then
      false
    else
      if a0 ≤ (57 : Int32) then
        true
      else
        false
  ) fun (j1 : Bool) =>
  j1
/-! X8_takeDigits -/
def l_X8_takeDigits_5 : Nat → fu_S → Int32 → Int32 → Int32 → Int32 → Option (Int32 × Int32)
  | 0, _, _, _, _, _ => none
  | n + 1, s, x1, x2, x3, x4 =>
    if x4 < x2 then
      if am_in x4 900 = true then
        if (f_X8_isDigit (s.1 7 (Int32.toNatClampNeg x4))) = true then
          Option.bind (
            if (x4 - x1) < (4 : Int32) then
              if am_in x4 900 = true then
                some (((x3 * (10 : Int32)) + (s.1 7 (Int32.toNatClampNeg x4))) - (48 : Int32))
              else none
            else
              some (0 : Int32)
          ) fun (j4 : Int32) =>
          l_X8_takeDigits_5 n s x1 x2 j4 (x4 + (1 : Int32))
        else
          some (x3, x4)
      else none
    else
      some (x3, x4)
def f_X8_takeDigits (s : fu_S) (a1 : Int32) (a2 : Int32) : Option (Int32 × fu_S) :=
  Option.bind (l_X8_takeDigits_5 fu_N s a1 a2 (0 : Int32) a1) fun (r7 : Int32 × Int32) =>
  Option.bind (
    if (r7.2 - a1) ≤ (4 : Int32) then
      some (2 : Int32)
    else
      some (1 : Int32)
  ) fun (j8 : Int32) =>
  Option.bind (f_X8_add s j8 a1 (Int32.toInt64 r7.1)) fun r10 =>
  some (r7.2, r10)
/-! X8_takeToken -/
def f_X8_takeToken (s : fu_S) (a1 : Int32) (a2 : Int32) : Option (Int32 × fu_S) :=
  if a1 < 0 then
    some (a2, s)
  else
    if a1 < a2 then
      if a2 ≤ (900 : Int32) then
        if am_in a1 900 = true then
          if (f_X8_isLetter (s.1 7 (Int32.toNatClampNeg a1))) = true then
            Option.bind (f_X8_takeWord s a1 a2) fun r6 =>
            some (r6.1, r6.2)
          else
            if (f_X8_isDigit (s.1 7 (Int32.toNatClampNeg a1))) = true then
              Option.bind (f_X8_takeDigits s a1 a2) fun r8 =>
              some (r8.1, r8.2)
            else
              Option.bind (
                if (s.1 7 (Int32.toNatClampNeg a1)) = (59 : Int32) then
                  some (s.1 7 (Int32.toNatClampNeg a1))
                else
                  if (s.1 7 (Int32.toNatClampNeg a1)) = (60 : Int32) then
                    some (s.1 7 (Int32.toNatClampNeg a1))
                  else
                    if (s.1 7 (Int32.toNatClampNeg a1)) = (62 : Int32) then
                      some (s.1 7 (Int32.toNatClampNeg a1))
                    else
                      if (s.1 7 (Int32.toNatClampNeg a1)) = (61 : Int32) then
                        some (s.1 7 (Int32.toNatClampNeg a1))
                      else
                        some (1 : Int32)
              ) fun (j9 : Int32) =>
              Option.bind (f_X8_add s j9 a1 (0 : Int64)) fun r14 =>
              some ((a1 + (1 : Int32)), r14)
        else none
      else
        some (a2, s)
    else
      some (a2, s)
/-! X8_open -/
def l_X8_open_38 : Nat → fu_S → Int32 → Int32 → Int32 → Option (fu_S)
  | 0, _, _, _, _ => none
  | n + 1, s, x2, x3, x4 =>
    if x4 < (900 : Int32) then
      if x3 < x2 then
        if am_in x3 900 = true then
          Option.bind (
            if (f_X8_isBlank (s.1 7 (Int32.toNatClampNeg x3))) = true then
              some ((x3 + (1 : Int32)), s)
            else
              Option.bind (f_X8_takeToken s x3 x2) fun r10 =>
              some (r10.1, r10.2)
          ) fun (j8 : Int32 × fu_S) =>
          l_X8_open_38 n j8.2 x2 j8.1 (x4 + (1 : Int32))
        else none
      else
        some s
    else
      some s
def f_X8_open (s : fu_S) (a1 : Int32) : Option fu_S :=
  fu_lt (fu_pi s 5 6 (0 : Int32)) fun s1 =>
  fu_lt (fu_pi s1 5 7 (0 : Int32)) fun s2 =>
  fu_lt (fu_pi s2 5 8 (0 : Int32)) fun s3 =>
  fu_lt (fu_pi s3 5 9 (-1 : Int32)) fun s4 =>
  Option.bind (l_X8_open_38 fu_N s4 (fu_mx (0 : Int32) (fu_mn a1 (s.1 5 2))) (0 : Int32) (0 : Int32)) fun (r11 : fu_S) =>
  Option.bind (f_X8_add r11 (0 : Int32) (fu_mx (0 : Int32) (fu_mn a1 (s.1 5 2))) (0 : Int64)) fun r12 =>
  some r12
/-! X9_cost -/
def l_X9_cost_9 : Nat → fu_S → Nat → Int32 → Int32 → Int32 → Int32 → Int32 → Option (Int32 × Int32)
  | 0, _, _, _, _, _, _, _ => none
  | n + 1, s, P0, x1, x2, x3, x4, x5 =>
    if x5 < (f_X4_things s P0) then
      Option.bind (
        if ((x2 >>> (x5 &&& 31)) &&& (1 : Int32)) = 0 then
          some (x3, x4)
        else
          Option.bind (f_X4_bearerOf s P0 x5) fun r4 =>
          Option.bind (f_X4_homeOf s P0 r4) fun r5 =>
          some ((fu_mn x3 r5), (fu_mx x4 r5))
      ) fun (j2 : Int32 × Int32) =>
      l_X9_cost_9 n s P0 x1 x2 j2.1 j2.2 (x5 + (1 : Int32))
    else
      some (x3, x4)
def f_X9_cost (s : fu_S) (P0 : Nat) (a1 : Int32) (a2 : Int32) : Option Int32 :=
  Option.bind (l_X9_cost_9 fu_N s P0 a1 a2 (59 : Int32) (0 : Int32) (0 : Int32)) fun (r6 : Int32 × Int32) =>
  Option.bind (
    if a2 = 0 then
      some (0 : Int32)
    else
      some ((r6.2 - r6.1) + (fu_mn (fu_ab (a1 - r6.1)) (fu_ab (a1 - r6.2))))
  ) fun (j7 : Int32) =>
  some j7
/-! X9_orders -/
def l_X9_orders_4 : Nat → Int32 → Int64 → Int32 → Option (Int64)
  | 0, _, _, _ => none
  | n + 1, x0, x1, x3 =>
    if x3 ≤ x0 then
      if x3 ≤ (8 : Int32) then
        l_X9_orders_4 n x0 (x1 * (Int32.toInt64 x3)) (x3 + (1 : Int32))
      else
        some x1
    else
      some x1
def f_X9_orders (a0 : Int32) : Option Int64 :=
  Option.bind (l_X9_orders_4 fu_N a0 (1 : Int64) (2 : Int32)) fun (r3 : Int64) =>
  some r3
/-! X9_shareOfAllOrders -/
def l_X9_shareOfAllOrders_26 : Nat → fu_S → Nat → Int32 → Int32 → Int32 → Int32 → Int64 → Int32 → Option (Int64)
  | 0, _, _, _, _, _, _, _, _ => none
  | n + 1, s, P0, x1, x3, x4, x5, x6, x8 =>
    if x8 ≤ x4 then
      Option.bind (
        if (x8 &&& (x4 ^^^ (-1 : Int32))) = 0 then
          Option.bind (f_X9_cost s P0 x1 (x8 ||| ((1 : Int32) <<< (x3 &&& 31)))) fun r4 =>
          Option.bind (f_X9_cost s P0 x1 x8) fun r5 =>
          Option.bind (f_X9_orders (f_J6_bitCount_0f7a4 x8)) fun r6 =>
          Option.bind (f_X9_orders (x5 - (f_J6_bitCount_0f7a4 x8))) fun r7 =>
          some (x6 + ((r6 * r7) * (Int32.toInt64 (r4 - r5))))
        else
          some x6
      ) fun (j2 : Int64) =>
      l_X9_shareOfAllOrders_26 n s P0 x1 x3 x4 x5 j2 (x8 + (1 : Int32))
    else
      some x6
def f_X9_shareOfAllOrders (s : fu_S) (P0 : Nat) (a1 : Int32) (a2 : Int32) (a3 : Int32) : Option Int64 :=
  Option.bind (l_X9_shareOfAllOrders_26 fu_N s P0 a1 a3 ((a2 &&& (255 : Int32)) &&& (((1 : Int32) <<< (a3 &&& 31)) ^^^ (-1 : Int32))) (f_J6_bitCount_0f7a4 ((a2 &&& (255 : Int32)) &&& (((1 : Int32) <<< (a3 &&& 31)) ^^^ (-1 : Int32)))) (0 : Int64) (0 : Int32)) fun (r8 : Int64) =>
  some r8
/-! X10_mostBehind -/
def f_X10_mostBehind (s : fu_S) (a1 : Int32) (a2 : Int32) : Option Int32 :=
  Option.bind (
    if a1 < 0 then
      some (0 : Int32)
    else
      if a1 < (8 : Int32) then
        if a2 < 0 then
          some (0 : Int32)
        else
          if a2 < (128 : Int32) then
            if am_in (((a1 + (1 : Int32)) * (128 : Int32)) + a2) 1152 = true then
              some (s.1 113 (Int32.toNatClampNeg (((a1 + (1 : Int32)) * (128 : Int32)) + a2)))
            else none
          else
            some (0 : Int32)
      else
        some (0 : Int32)
  ) fun (j1 : Int32) =>
  some j1
/-! X10_mostFrom -/
def l_X10_mostFrom_22 : Nat → fu_S → Int32 → Int32 → Int32 → Int32 → Int32 → Option (Int32)
  | 0, _, _, _, _, _, _ => none
  | n + 1, s, x1, x2, x3, x4, x5 =>
    if x5 < (7 : Int32) then
      if x4 = 0 then
        some x3
      else
        Option.bind (
          if ((x4 >>> (x5 &&& 31)) &&& (1 : Int32)) = 0 then
            some x3
          else
            Option.bind (f_X10_mostBehind s x1 (x2 ||| ((1 : Int32) <<< (x5 &&& 31)))) fun r7 =>
            some (fu_mx x3 ((1 : Int32) + r7))
        ) fun (j5 : Int32) =>
        l_X10_mostFrom_22 n s x1 x2 j5 x4 (x5 + (1 : Int32))
    else
      some x3
def f_X10_mostFrom (s : fu_S) (a1 : Int32) (a2 : Int32) : Option Int32 :=
  Option.bind (f_X10_mostBehind s a1 a2) fun r1 =>
  if am_in a1 8 = true then
    Option.bind (l_X10_mostFrom_22 fu_N s a1 a2 r1 ((s.1 111 (Int32.toNatClampNeg a1)) &&& (a2 ^^^ (-1 : Int32))) (0 : Int32)) fun (r8 : Int32) =>
    some r8
  else none
/-! X10_bestWorker -/
def l_X10_bestWorker_10 : Nat → fu_S → Int32 → Int32 → Int32 → Int32 → Option (Int32 ⊕ (Unit))
  | 0, _, _, _, _, _ => none
  | n + 1, s, x1, x2, x3, x4 =>
    if x4 < (7 : Int32) then
      if am_in x1 8 = true then
        Option.bind (
          if (((s.1 111 (Int32.toNatClampNeg x1)) >>> (x4 &&& 31)) &&& (1 : Int32)) = 0 then
            some false
          else
            if ((x2 >>> (x4 &&& 31)) &&& (1 : Int32)) = 0 then
              some true
            else
              some false
        ) fun (j4 : Bool) =>
        if j4 = true then
          Option.bind (f_X10_mostBehind s x1 (x2 ||| ((1 : Int32) <<< (x4 &&& 31)))) fun r8 =>
          if ((1 : Int32) + r8) = x3 then
            some (.inl x4)
          else
            l_X10_bestWorker_10 n s x1 x2 x3 (x4 + (1 : Int32))
        else
          l_X10_bestWorker_10 n s x1 x2 x3 (x4 + (1 : Int32))
      else none
    else
      some (.inr ())
def f_X10_bestWorker (s : fu_S) (a1 : Int32) (a2 : Int32) : Option Int32 :=
  Option.bind (f_X10_mostFrom s a1 a2) fun r1 =>
  Option.bind (l_X10_bestWorker_10 fu_N s a1 a2 r1 (0 : Int32)) (Sum.elim (fun (a : Int32) => some a) fun (r10 : Unit) =>
    some (-1 : Int32)
  )
/-! X10_assign -/
def l_X10_assign_2 : Nat → fu_S → Nat → Int32 → Option (fu_S)
  | 0, _, _, _ => none
  | n + 1, s, P1, x2 =>
    if x2 < (8 : Int32) then
      Option.bind (f_X4_isUp s P1 x2) fun r2 =>
      Option.bind (
        if r2 = true then
          Option.bind (f_X4_ableSetFor s P1 x2) fun r5 =>
          some r5
        else
          some (0 : Int32)
      ) fun (j3 : Int32) =>
      if am_in x2 8 = true then
        fu_lt (fu_pi s 111 (Int32.toNatClampNeg x2) j3) fun s6 =>
        l_X10_assign_2 n s6 P1 (x2 + (1 : Int32))
      else none
    else
      some s
def l_X10_assign_46 : Nat → fu_S → Nat → Int32 → Int32 → Option (fu_S)
  | 0, _, _, _, _ => none
  | n + 1, s, P1, x2, x3 =>
    if x3 < (128 : Int32) then
      Option.bind (f_X10_mostFrom s x2 x3) fun r11 =>
      if am_in ((x2 * (128 : Int32)) + x3) 1152 = true then
        fu_lt (fu_pi s 113 (Int32.toNatClampNeg ((x2 * (128 : Int32)) + x3)) r11) fun s12 =>
        l_X10_assign_46 n s12 P1 x2 (x3 + (1 : Int32))
      else none
    else
      some s
def l_X10_assign_40 : Nat → fu_S → Nat → Int32 → Option (fu_S)
  | 0, _, _, _ => none
  | n + 1, s, P1, x2 =>
    if x2 < 0 then
      some s
    else
      Option.bind (l_X10_assign_46 fu_N s P1 x2 (0 : Int32)) fun (r14 : fu_S) =>
      l_X10_assign_40 n r14 P1 (x2 + (-1 : Int32))
def l_X10_assign_87 : Nat → fu_S → Nat → Int32 → Int32 → Option (fu_S)
  | 0, _, _, _, _ => none
  | n + 1, s, P1, x2, x3 =>
    if x3 < (8 : Int32) then
      Option.bind (f_X10_bestWorker s x3 x2) fun r17 =>
      if am_in x3 8 = true then
        fu_lt (fu_pi s 112 (Int32.toNatClampNeg x3) r17) fun s18 =>
        if am_in x3 8 = true then
          Option.bind (
            if (s18.1 112 (Int32.toNatClampNeg x3)) = (-1 : Int32) then
              some (0 : Int32)
            else
              if am_in x3 8 = true then
                some ((1 : Int32) <<< ((s18.1 112 (Int32.toNatClampNeg x3)) &&& 31))
              else none
          ) fun (j21 : Int32) =>
          l_X10_assign_87 n s18 P1 (x2 ||| j21) (x3 + (1 : Int32))
        else none
      else none
    else
      some s
def f_X10_assign (s : fu_S) (P1 : Nat) : Option (Int32 × fu_S) :=
  Option.bind (l_X10_assign_2 fu_N s P1 (0 : Int32)) fun (r8 : fu_S) =>
  Option.bind (l_X10_assign_40 fu_N r8 P1 (7 : Int32)) fun (r15 : fu_S) =>
  Option.bind (l_X10_assign_87 fu_N r15 P1 (0 : Int32) (0 : Int32)) fun (r24 : fu_S) =>
  some ((r24.1 113 0), r24)
/-! X10_workerOn -/
def f_X10_workerOn (s : fu_S) (a1 : Int32) : Option Int32 :=
  Option.bind (
    if a1 < 0 then
      some (-1 : Int32)
    else
      if a1 < (8 : Int32) then
        if am_in a1 8 = true then
          some (s.1 112 (Int32.toNatClampNeg a1))
        else none
      else
        some (-1 : Int32)
  ) fun (j1 : Int32) =>
  some j1
/-! X10_worthOfMove -/
def f_X10_worthOfMove (K : fu_S → Nat → Int32 → Int32 → Int32 → Option Int32) (s : fu_S) (P0 : Nat) (a1 : Int32) (a2 : Int32) (a3 : Int32) (a4 : Int32) : Option Int32 :=
  Option.bind (f_X4_worthOf s P0 a4) fun r1 =>
  Option.bind (K s P0 (a2 &&& (((1 : Int32) <<< (a4 &&& 31)) ^^^ (-1 : Int32))) (a1 &&& (((1 : Int32) <<< (a4 &&& 31)) ^^^ (-1 : Int32))) (a3 - (1 : Int32))) fun r2 =>
  some (r1 - r2)
/-! X10_bestPlay -/
def l_X10_bestPlay_26 (K : fu_S → Nat → Int32 → Int32 → Int32 → Option Int32) : Nat → fu_S → Nat → Int32 → Int32 → Int32 → Int32 → Int32 → Option (Int32)
  | 0, _, _, _, _, _, _, _ => none
  | n + 1, s, P0, x1, x2, x3, x4, x5 =>
    if x5 < (8 : Int32) then
      Option.bind (
        if ((x1 >>> (x5 &&& 31)) &&& (1 : Int32)) = 0 then
          some x4
        else
          Option.bind (f_X10_worthOfMove K s P0 x1 x2 x3 x5) fun r7 =>
          some (fu_mx x4 r7)
      ) fun (j5 : Int32) =>
      l_X10_bestPlay_26 K n s P0 x1 x2 x3 j5 (x5 + (1 : Int32))
    else
      some x4
def fb_X10_bestPlay (K : fu_S → Nat → Int32 → Int32 → Int32 → Option Int32) (s : fu_S) (P0 : Nat) (a1 : Int32) (a2 : Int32) (a3 : Int32) : Option Int32 :=
  if a3 ≤ 0 then
    some (0 : Int32)
  else
    if a3 ≤ (4 : Int32) then
      Option.bind (K s P0 a2 a1 (a3 - (1 : Int32))) fun r3 =>
      Option.bind (l_X10_bestPlay_26 K fu_N s P0 a1 a2 a3 (-r3) (0 : Int32)) fun (r8 : Int32) =>
      some r8
    else
      some (0 : Int32)
def f_X10_bestPlay : Nat → fu_S → Nat → Int32 → Int32 → Int32 → Option Int32
  | 0 => fun _ _ _ _ _ => none
  | n + 1 => fb_X10_bestPlay (f_X10_bestPlay n)
/-! X10_gameWorth -/
def f_X10_gameWorth (s : fu_S) (P1 : Nat) (a2 : Int32) (a3 : Int32) (a4 : Int32) : Option Int32 :=
  Option.bind (f_X4_upSetFor s P1 a2) fun r1 =>
  Option.bind (f_X4_upSetFor s P1 a3) fun r2 =>
  Option.bind (f_X10_bestPlay 16 s P1 r1 r2 a4) fun r3 =>
  some r3
/-! X10_firstMove -/
def l_X10_firstMove_29 : Nat → fu_S → Nat → Int32 → Int32 → Int32 → Int32 → Int32 → Option (Int32 ⊕ (Unit))
  | 0, _, _, _, _, _, _, _ => none
  | n + 1, s, P1, x4, x5, x6, x7, x8 =>
    if x8 < (8 : Int32) then
      if ((x5 >>> (x8 &&& 31)) &&& (1 : Int32)) = 0 then
        l_X10_firstMove_29 n s P1 x4 x5 x6 x7 (x8 + (1 : Int32))
      else
        Option.bind (f_X10_worthOfMove (f_X10_bestPlay 16) s P1 x5 x6 x4 x8) fun r6 =>
        if r6 = x7 then
          some (.inl x8)
        else
          l_X10_firstMove_29 n s P1 x4 x5 x6 x7 (x8 + (1 : Int32))
    else
      some (.inr ())
def f_X10_firstMove (s : fu_S) (P1 : Nat) (a2 : Int32) (a3 : Int32) (a4 : Int32) : Option Int32 :=
  Option.bind (f_X4_upSetFor s P1 a2) fun r1 =>
  Option.bind (f_X4_upSetFor s P1 a3) fun r2 =>
  Option.bind (f_X10_bestPlay 16 s P1 r1 r2 a4) fun r3 =>
  Option.bind (l_X10_firstMove_29 fu_N s P1 a4 r1 r2 r3 (0 : Int32)) (Sum.elim (fun (a : Int32) => some a) fun (r8 : Unit) =>
    some (-1 : Int32)
  )
/-! X11_status -/
def f_X11_status (s : fu_S) : Int32 :=
  (s.1 0 15)
/-! X11_top -/
def f_X11_top (s : fu_S) : Int64 :=
  (s.2 0 16)
/-! X11_bottom -/
def f_X11_bottom (s : fu_S) : Int64 :=
  (s.2 0 17)
/-! X11_tray -/
def f_X11_tray (s : fu_S) (a1 : Int32) (a2 : Int32) (a3 : Int32) : Option (Bool × fu_S) :=
  Option.bind (
    if (f_X7_isTray a1) = true then
      if (f_X7_isSort a2) = true then
        if a3 ≤ (60 : Int32) then
          if a3 < 0 then
            some (6 : Int32)
          else
            some (0 : Int32)
        else
          some (5 : Int32)
      else
        some (1 : Int32)
    else
      some (1 : Int32)
  ) fun (j1 : Int32) =>
  fu_lt (fu_pi s 0 15 j1) fun s6 =>
  Option.bind (
    if (s6.1 0 15) = 0 then
      Option.bind (f_X7_make s6 a1 a2 a3) fun r9 =>
      some r9
    else
      some s6
  ) fun (j7 : fu_S) =>
  Option.bind (
    if (j7.1 0 15) = 0 then
      some true
    else
      some false
  ) fun (j10 : Bool) =>
  some (j10, j7)
/-! X11_placeStatus -/
def f_X11_placeStatus (s : fu_S) (a1 : Int32) (a2 : Int32) : Option Int32 :=
  Option.bind (
    if (f_X7_isTray a1) = true then
      Option.bind (f_X7_isThere s a1) fun r3 =>
      if r3 = true then
        Option.bind (f_X7_hasPlaces s a1 a2 (1 : Int32)) fun r5 =>
        if r5 = true then
          some (0 : Int32)
        else
          some (4 : Int32)
      else
        some (3 : Int32)
    else
      some (1 : Int32)
  ) fun (j1 : Int32) =>
  some j1
/-! X11_write -/
def f_X11_write (s : fu_S) (a1 : Int32) (a2 : Int32) (a3 : Int64) : Option (Bool × fu_S) :=
  Option.bind (f_X11_placeStatus s a1 a2) fun r1 =>
  fu_lt (fu_pi s 0 15 r1) fun s2 =>
  Option.bind (
    if (s2.1 0 15) = 0 then
      Option.bind (f_X7_put s2 a1 a2 a3) fun r5 =>
      some r5
    else
      some s2
  ) fun (j3 : fu_S) =>
  Option.bind (
    if (j3.1 0 15) = 0 then
      some true
    else
      some false
  ) fun (j6 : Bool) =>
  some (j6, j3)
/-! X11_read -/
def f_X11_read (s : fu_S) (a1 : Int32) (a2 : Int32) : Option (Int64 × fu_S) :=
  Option.bind (f_X11_placeStatus s a1 a2) fun r1 =>
  fu_lt (fu_pi s 0 15 r1) fun s2 =>
  Option.bind (
    if (s2.1 0 15) = 0 then
      Option.bind (f_X7_numberAt s2 a1 a2) fun r5 =>
      some r5
    else
      some (-1 : Int64)
  ) fun (j3 : Int64) =>
  some (j3, s2)
/-! X11_pour -/
def f_X11_pour (s : fu_S) (a1 : Int32) (a2 : Int32) (a3 : Int32) (a4 : Int32) (a5 : Int32) : Option (Bool × fu_S) :=
  Option.bind (
    if (f_X7_isTray a1) = true then
      if (f_X7_isTray a3) = true then
        Option.bind (f_X7_isThere s a1) fun r4 =>
        if r4 = true then
          Option.bind (f_X7_isThere s a3) fun r6 =>
          if r6 = true then
            Option.bind (f_X7_sortOf s a1) fun r8 =>
            Option.bind (f_X7_sortOf s a3) fun r9 =>
            if r8 = r9 then
              if a5 < 0 then
                some (6 : Int32)
              else
                Option.bind (f_X7_hasPlaces s a1 a2 a5) fun r12 =>
                if r12 = true then
                  Option.bind (f_X7_hasPlaces s a3 a4 a5) fun r14 =>
                  if r14 = true then
                    some (0 : Int32)
                  else
                    some (4 : Int32)
                else
                  some (4 : Int32)
            else
              some (11 : Int32)
          else
            some (3 : Int32)
        else
          some (3 : Int32)
      else
        some (1 : Int32)
    else
      some (1 : Int32)
  ) fun (j1 : Int32) =>
  fu_lt (fu_pi s 0 15 j1) fun s16 =>
  Option.bind (
    if (s16.1 0 15) = 0 then
      Option.bind (f_X7_transfer s16 a1 a2 a3 a4 a5) fun r19 =>
      some r19
    else
      some s16
  ) fun (j17 : fu_S) =>
  Option.bind (
    if (j17.1 0 15) = 0 then
      some true
    else
      some false
  ) fun (j20 : Bool) =>
  some (j20, j17)
/-! X11_feed -/
def f_X11_feed (s : fu_S) (a1 : Int32) (a2 : Int32) (a3 : Int32) (a4 : Int32) (a5 : Int32) : Option (Int32 × fu_S) :=
  if (f_X8_hasRoomFor s (20 : Int32)) = true then
    Option.bind (f_X8_append s a1) fun r2 =>
    Option.bind (f_X8_append r2 a2) fun r3 =>
    Option.bind (f_X8_append r3 a3) fun r4 =>
    Option.bind (f_X8_append r4 a4) fun r5 =>
    Option.bind (f_X8_append r5 a5) fun r6 =>
    some ((f_X8_size r6), r6)
  else
    some ((-1 : Int32), s)
/-! X11_district -/
def f_X11_district (s : fu_S) (a1 : Int32) : Option (Int32 × fu_S) :=
  Option.bind (
    if a1 < 0 then
      some (5 : Int32)
    else
      if a1 ≤ (f_X8_size s) then
        some (0 : Int32)
      else
        some (5 : Int32)
  ) fun (j1 : Int32) =>
  fu_lt (fu_pi s 0 15 j1) fun s4 =>
  if (s4.1 0 15) = 0 then
    Option.bind (f_X8_open s4 a1) fun r6 =>
    Option.bind (f_X2_takeAll r6) fun r7 =>
    Option.bind (
      if r7.1 = true then
        fu_lt (f_X4_copyFrom r7.2 11 29) fun r10 =>
        fu_lt (f_X5_forget r10 24) fun r11 =>
        some r11
      else
        fu_lt (fu_pi r7.2 0 15 (10 : Int32)) fun s12 =>
        some s12
    ) fun (j8 : fu_S) =>
    fu_lt (f_X8_wipe j8) fun r13 =>
    Option.bind (
      if (r13.1 0 15) = 0 then
        some (f_X4_people r13 11)
      else
        some (-1 : Int32)
    ) fun (j14 : Int32) =>
    some (j14, r13)
  else
    some ((-1 : Int32), s4)
/-! X11_days -/
def f_X11_days (s : fu_S) (a1 : Int32) : Option (Int32 × fu_S) :=
  Option.bind (
    if a1 < 0 then
      some (5 : Int32)
    else
      if a1 ≤ (f_X8_size s) then
        if a1 ≤ (300 : Int32) then
          some (0 : Int32)
        else
          some (5 : Int32)
      else
        some (5 : Int32)
  ) fun (j1 : Int32) =>
  fu_lt (fu_pi s 0 15 j1) fun s5 =>
  if (s5.1 0 15) = 0 then
    Option.bind (f_X8_open s5 a1) fun r7 =>
    Option.bind (f_X6_takeAll r7) fun r8 =>
    Option.bind (
      if r8.1 = true then
        fu_lt (f_X5_copyFrom r8.2 24 42) fun r11 =>
        some r11
      else
        fu_lt (fu_pi r8.2 0 15 (10 : Int32)) fun s12 =>
        some s12
    ) fun (j9 : fu_S) =>
    fu_lt (f_X8_wipe j9) fun r13 =>
    Option.bind (
      if (r13.1 0 15) = 0 then
        some (f_X5_steps r13 24)
      else
        some (-1 : Int32)
    ) fun (j14 : Int32) =>
    some (j14, r13)
  else
    some ((-1 : Int32), s5)
/-! X11_fault -/
def f_X11_fault (s : fu_S) (a1 : Int32) : Int32 :=
  fu_lt (
    if a1 = 0 then
      (f_X8_faultKind s)
    else
      if a1 = (1 : Int32) then
        (f_X8_faultPlace s)
      else
        (-1 : Int32)
  ) fun (j1 : Int32) =>
  j1
/-! X11_many -/
def f_X11_many (s : fu_S) (a1 : Int32) : Option (Int32 × fu_S) :=
  Option.bind (
    if a1 < 0 then
      some (5 : Int32)
    else
      if a1 ≤ (8 : Int32) then
        some (0 : Int32)
      else
        some (5 : Int32)
  ) fun (j1 : Int32) =>
  fu_lt (fu_pi s 0 15 j1) fun s4 =>
  if a1 = (0 : Int32) then
    some ((f_X4_kinds s4 11), s4)
  else
  if a1 = (1 : Int32) then
    some ((f_X4_people s4 11), s4)
  else
  if a1 = (2 : Int32) then
    some ((f_X4_things s4 11), s4)
  else
  if a1 = (3 : Int32) then
    some ((f_X4_odds s4 11), s4)
  else
  if a1 = (4 : Int32) then
    some ((f_X4_arm s4 11), s4)
  else
  if a1 = (5 : Int32) then
    some ((f_X4_minute s4 11), s4)
  else
  if a1 = (6 : Int32) then
    Option.bind (f_X4_upSet s4 11) fun r12 =>
    some (r12, s4)
  else
  if a1 = (7 : Int32) then
    Option.bind (f_X4_scratchedSet s4 11) fun r14 =>
    some (r14, s4)
  else
  if a1 = (8 : Int32) then
    Option.bind (f_X4_foundSet s4 11) fun r16 =>
    some (r16, s4)
  else
  some ((-1 : Int32), s4)
/-! X11_kind -/
def f_X11_kind (s : fu_S) (a1 : Int32) (a2 : Int32) : Option (Int32 × fu_S) :=
  Option.bind (
    if (f_X4_hasKind s 11 a1) = true then
      if a2 < 0 then
        some (5 : Int32)
      else
        if a2 ≤ (2 : Int32) then
          some (0 : Int32)
        else
          some (5 : Int32)
    else
      some (2 : Int32)
  ) fun (j1 : Int32) =>
  fu_lt (fu_pi s 0 15 j1) fun s5 =>
  Option.bind (
    if (s5.1 0 15) = 0 then
      Option.bind (f_X4_ofKind s5 11 a1 a2) fun r8 =>
      some r8
    else
      some (-1 : Int32)
  ) fun (j6 : Int32) =>
  some (j6, s5)
/-! X11_person -/
def f_X11_person (s : fu_S) (a1 : Int32) (a2 : Int32) : Option (Int32 × fu_S) :=
  Option.bind (
    if (f_X4_hasPerson s 11 a1) = true then
      if a2 < 0 then
        some (5 : Int32)
      else
        if a2 ≤ (3 : Int32) then
          some (0 : Int32)
        else
          some (5 : Int32)
    else
      some (2 : Int32)
  ) fun (j1 : Int32) =>
  fu_lt (fu_pi s 0 15 j1) fun s5 =>
  if (s5.1 0 15) = 0 then
    if a2 = (0 : Int32) then
      Option.bind (f_X4_homeOf s5 11 a1) fun r8 =>
      some (r8, s5)
    else
    if a2 = (1 : Int32) then
      Option.bind (f_X4_reachOf s5 11 a1) fun r10 =>
      some (r10, s5)
    else
    if a2 = (2 : Int32) then
      Option.bind (f_X4_upSetOn s5 11 a1) fun r12 =>
      some (r12, s5)
    else
    Option.bind (f_X4_ownSetOf s5 11 a1) fun r13 =>
    some (r13, s5)
  else
    some ((-1 : Int32), s5)
/-! X11_thing -/
def f_X11_thing (s : fu_S) (a1 : Int32) (a2 : Int32) : Option (Int32 × fu_S) :=
  Option.bind (
    if (f_X4_hasThing s 11 a1) = true then
      if a2 < 0 then
        some (5 : Int32)
      else
        if a2 ≤ (9 : Int32) then
          if a2 = (7 : Int32) then
            Option.bind (f_X4_isScratched s 11 a1) fun r6 =>
            if r6 = true then
              some (0 : Int32)
            else
              some (8 : Int32)
          else
            if a2 = (8 : Int32) then
              Option.bind (f_X4_isScratched s 11 a1) fun r9 =>
              if r9 = true then
                some (0 : Int32)
              else
                some (8 : Int32)
            else
              some (0 : Int32)
        else
          some (5 : Int32)
    else
      some (2 : Int32)
  ) fun (j1 : Int32) =>
  fu_lt (fu_pi s 0 15 j1) fun s11 =>
  if (s11.1 0 15) = 0 then
    if a2 = (0 : Int32) then
      Option.bind (f_X4_ownerOf s11 11 a1) fun r14 =>
      some (r14, s11)
    else
    if a2 = (1 : Int32) then
      Option.bind (f_X4_kindOf s11 11 a1) fun r16 =>
      some (r16, s11)
    else
    if a2 = (2 : Int32) then
      Option.bind (f_X4_worthOf s11 11 a1) fun r18 =>
      some (r18, s11)
    else
    if a2 = (3 : Int32) then
      Option.bind (f_X4_lostAtOf s11 11 a1) fun r20 =>
      some (r20, s11)
    else
    if a2 = (4 : Int32) then
      Option.bind (f_X4_bearerOf s11 11 a1) fun r22 =>
      some (r22, s11)
    else
    if a2 = (5 : Int32) then
      Option.bind (f_X4_spotOf s11 11 a1) fun r24 =>
      some (r24, s11)
    else
    if a2 = (6 : Int32) then
      Option.bind (f_X4_upAtOf s11 11 a1) fun r26 =>
      some (r26, s11)
    else
    if a2 = (7 : Int32) then
      Option.bind (f_X4_scratchedAtOf s11 11 a1) fun r28 =>
      some (r28, s11)
    else
    if a2 = (8 : Int32) then
      Option.bind (f_X4_foundAtOf s11 11 a1) fun r30 =>
      some (r30, s11)
    else
    Option.bind (f_X4_ableSetFor s11 11 a1) fun r31 =>
    some (r31, s11)
  else
    some ((-1 : Int32), s11)
/-! X11_coupleStatus -/
def f_X11_coupleStatus (s : fu_S) (a1 : Int32) (a2 : Int32) : Int32 :=
  fu_lt (
    if (f_X4_hasPerson s 11 a1) = true then
      if (f_X4_hasPerson s 11 a2) = true then
        (0 : Int32)
      else
        (2 : Int32)
    else
      (2 : Int32)
  ) fun (j1 : Int32) =>
  j1
/-! X11_far -/
def f_X11_far (s : fu_S) (a1 : Int32) (a2 : Int32) : Option (Int32 × fu_S) :=
  fu_lt (fu_pi s 0 15 (f_X11_coupleStatus s a1 a2)) fun s1 =>
  Option.bind (
    if (s1.1 0 15) = 0 then
      Option.bind (f_X4_apart s1 11 a1 a2) fun r4 =>
      some r4
    else
      some (-1 : Int32)
  ) fun (j2 : Int32) =>
  some (j2, s1)
/-! X11_copyHomes -/
def l_X11_copyHomes_71 : Nat → fu_S → Int32 → Int32 → Int32 → Option (fu_S)
  | 0, _, _, _, _ => none
  | n + 1, s, x1, x2, x3 =>
    if x3 < x2 then
      Option.bind (f_X4_homeOf s 11 x3) fun r10 =>
      Option.bind (f_X7_put s x1 x3 (Int32.toInt64 r10)) fun r11 =>
      l_X11_copyHomes_71 n r11 x1 x2 (x3 + (1 : Int32))
    else
      some s
def f_X11_copyHomes (s : fu_S) (a1 : Int32) : Option (Int32 × fu_S) :=
  Option.bind (
    if (f_X7_isTray a1) = true then
      Option.bind (f_X7_isThere s a1) fun r3 =>
      if r3 = true then
        Option.bind (f_X7_hasPlaces s a1 (0 : Int32) (f_X4_people s 11)) fun r5 =>
        if r5 = true then
          some (0 : Int32)
        else
          some (4 : Int32)
      else
        some (3 : Int32)
    else
      some (1 : Int32)
  ) fun (j1 : Int32) =>
  fu_lt (fu_pi s 0 15 j1) fun s7 =>
  if (s7.1 0 15) = 0 then
    Option.bind (l_X11_copyHomes_71 fu_N s7 a1 (f_X4_people s 11) (0 : Int32)) fun (r12 : fu_S) =>
    some ((f_X4_people s 11), r12)
  else
    some ((-1 : Int32), s7)
/-! X11_lose -/
def f_X11_lose (s : fu_S) (a1 : Int32) (a2 : Int32) (a3 : Int32) : Option (Int32 × fu_S) :=
  Option.bind (
    if (f_X4_hasPerson s 11 a1) = true then
      if (f_X4_hasKind s 11 a2) = true then
        if a3 < (1 : Int32) then
          some (5 : Int32)
        else
          if a3 ≤ (9 : Int32) then
            if (f_X4_things s 11) < (8 : Int32) then
              some (0 : Int32)
            else
              some (7 : Int32)
          else
            some (5 : Int32)
      else
        some (2 : Int32)
    else
      some (2 : Int32)
  ) fun (j1 : Int32) =>
  fu_lt (fu_pi s 0 15 j1) fun s7 =>
  Option.bind (
    if (s7.1 0 15) = 0 then
      Option.bind (f_X4_addThing s7 11 a1 a2 a3) fun r10 =>
      some (r10.1, r10.2)
    else
      some ((-1 : Int32), s7)
  ) fun (j8 : Int32 × fu_S) =>
  some (j8.1, j8.2)
/-! X11_pass -/
def f_X11_pass (s : fu_S) (a1 : Int32) : Option (Int32 × fu_S) :=
  Option.bind (
    if a1 < (1 : Int32) then
      some (5 : Int32)
    else
      if a1 ≤ (999 : Int32) then
        if (f_X4_canWait s 11 a1) = true then
          some (0 : Int32)
        else
          some (7 : Int32)
      else
        some (5 : Int32)
  ) fun (j1 : Int32) =>
  fu_lt (fu_pi s 0 15 j1) fun s5 =>
  if (s5.1 0 15) = 0 then
    fu_lt (f_X4_goOn s5 11 a1) fun r7 =>
    Option.bind (f_X4_upSet r7 11) fun r8 =>
    some (r8, r7)
  else
    some ((-1 : Int32), s5)
/-! X11_scratch -/
def f_X11_scratch (s : fu_S) (a1 : Int32) (a2 : Int32) : Option (Int32 × fu_S) :=
  Option.bind (
    if (f_X4_hasPerson s 11 a1) = true then
      if (f_X4_hasThing s 11 a2) = true then
        Option.bind (f_X4_canScratchNow s 11 a1 a2) fun r4 =>
        if r4 = true then
          some (0 : Int32)
        else
          some (9 : Int32)
      else
        some (2 : Int32)
    else
      some (2 : Int32)
  ) fun (j1 : Int32) =>
  fu_lt (fu_pi s 0 15 j1) fun s6 =>
  if (s6.1 0 15) = 0 then
    Option.bind (f_X4_endItch s6 11 a2) fun r8 =>
    Option.bind (f_X4_foundAtOf r8 11 a2) fun r9 =>
    some (r9, r8)
  else
    some ((-1 : Int32), s6)
/-! X11_teach -/
def f_X11_teach (s : fu_S) (a1 : Int32) (a2 : Int32) (a3 : Bool) : Option (Bool × fu_S) :=
  Option.bind (
    if (f_X4_hasPerson s 11 a1) = true then
      if (f_X4_isSpot 11 a2) = true then
        Option.bind (f_X4_reaches s 11 a1 a2) fun r4 =>
        if (fu_b r4) = (fu_b a3) then
          some (9 : Int32)
        else
          some (0 : Int32)
      else
        some (2 : Int32)
    else
      some (2 : Int32)
  ) fun (j1 : Int32) =>
  fu_lt (fu_pi s 0 15 j1) fun s6 =>
  Option.bind (
    if (s6.1 0 15) = 0 then
      Option.bind (f_X4_toggleReach s6 11 a1 a2) fun r9 =>
      some r9
    else
      some s6
  ) fun (j7 : fu_S) =>
  Option.bind (
    if (j7.1 0 15) = 0 then
      some true
    else
      some false
  ) fun (j10 : Bool) =>
  some (j10, j7)
/-! X11_move -/
def f_X11_move (s : fu_S) (a1 : Int32) (a2 : Int32) : Option (Int32 × fu_S) :=
  Option.bind (
    if (f_X4_hasPerson s 11 a1) = true then
      if (f_X4_isHome 11 a2) = true then
        some (0 : Int32)
      else
        some (5 : Int32)
    else
      some (2 : Int32)
  ) fun (j1 : Int32) =>
  fu_lt (fu_pi s 0 15 j1) fun s4 =>
  if (s4.1 0 15) = 0 then
    Option.bind (f_X4_homeOf s4 11 a1) fun r6 =>
    Option.bind (f_X4_settle s4 11 a1 a2) fun r7 =>
    some (r6, r7)
  else
    some ((-1 : Int32), s4)
/-! X11_come -/
def f_X11_come (s : fu_S) (a1 : Int32) : Option (Int32 × fu_S) :=
  Option.bind (
    if (f_X4_isHome 11 a1) = true then
      if (f_X4_people s 11) < (7 : Int32) then
        some (0 : Int32)
      else
        some (7 : Int32)
    else
      some (5 : Int32)
  ) fun (j1 : Int32) =>
  fu_lt (fu_pi s 0 15 j1) fun s4 =>
  Option.bind (
    if (s4.1 0 15) = 0 then
      Option.bind (f_X4_addPerson s4 11 (0 : Int64) a1 (0 : Int32)) fun r7 =>
      some (r7.1, r7.2)
    else
      some ((-1 : Int32), s4)
  ) fun (j5 : Int32 × fu_S) =>
  some (j5.1, j5.2)
/-! X11_rewrite -/
def f_X11_rewrite (s : fu_S) (a1 : Int32) (a2 : Int32) (a3 : Int32) : Option (Int32 × fu_S) :=
  Option.bind (
    if (f_X4_hasKind s 11 a1) = true then
      if (f_X4_isForKind 11 a2 a3) = true then
        some (0 : Int32)
      else
        some (5 : Int32)
    else
      some (2 : Int32)
  ) fun (j1 : Int32) =>
  fu_lt (fu_pi s 0 15 j1) fun s4 =>
  if (s4.1 0 15) = 0 then
    Option.bind (f_X4_ofKind s4 11 a1 a2) fun r6 =>
    Option.bind (f_X4_changeKind s4 11 a1 a2 a3) fun r7 =>
    some (r6, r7)
  else
    some ((-1 : Int32), s4)
/-! X11_rule -/
def f_X11_rule (s : fu_S) (a1 : Int32) (a2 : Int32) : (Bool × fu_S) :=
  fu_lt (
    if a1 = (3 : Int32) then
      if a2 < 0 then
        false
      else
        if a2 ≤ (16 : Int32) then
          true
        else
          false
    else
      false
  ) fun (j1 : Bool) =>
  fu_lt (
    if a1 = (4 : Int32) then
      if a2 < 0 then
        false
      else
        if a2 ≤ (59 : Int32) then
          true
        else
          false
    else
      false
  ) fun (j5 : Bool) =>
  fu_lt (
    if j1 = true then
      (0 : Int32)
    else
      if j5 = true then
        (0 : Int32)
      else
        (5 : Int32)
  ) fun (j9 : Int32) =>
  fu_lt (fu_pi s 0 15 j9) fun s12 =>
  fu_lt (
    if j1 = true then
      fu_lt (f_X4_setOdds s12 11 a2) fun r15 =>
      r15
    else
      s12
  ) fun (j13 : fu_S) =>
  fu_lt (
    if j5 = true then
      fu_lt (f_X4_setArm j13 11 a2) fun r18 =>
      r18
    else
      j13
  ) fun (j16 : fu_S) =>
  fu_lt (
    if (j16.1 0 15) = 0 then
      true
    else
      false
  ) fun (j19 : Bool) =>
  (j19, j16)
/-! X11_soonest -/
def f_X11_soonest (s : fu_S) (a1 : Int32) : Option (Int32 × fu_S) :=
  Option.bind (
    if (f_X4_hasThing s 11 a1) = true then
      Option.bind (f_X4_isScratched s 11 a1) fun r3 =>
      if r3 = true then
        some (0 : Int32)
      else
        Option.bind (f_X4_ableSetFor s 11 a1) fun r5 =>
        if r5 = 0 then
          some (8 : Int32)
        else
          some (0 : Int32)
    else
      some (2 : Int32)
  ) fun (j1 : Int32) =>
  fu_lt (fu_pi s 0 15 j1) fun s7 =>
  Option.bind (
    if (s7.1 0 15) = 0 then
      Option.bind (f_X4_soonestFound s7 11 a1) fun r10 =>
      some r10
    else
      some (-1 : Int32)
  ) fun (j8 : Int32) =>
  some (j8, s7)
/-! X11_round -/
def f_X11_round (s : fu_S) : Option (Int32 × fu_S) :=
  fu_lt (fu_pi s 0 15 (0 : Int32)) fun s1 =>
  Option.bind (f_X10_assign s1 11) fun r2 =>
  some (r2.1, r2.2)
/-! X11_works -/
def f_X11_works (s : fu_S) (a1 : Int32) : Option (Int32 × fu_S) :=
  Option.bind (
    if (f_X4_hasThing s 11 a1) = true then
      some (0 : Int32)
    else
      some (2 : Int32)
  ) fun (j1 : Int32) =>
  fu_lt (fu_pi s 0 15 j1) fun s3 =>
  if (s3.1 0 15) = 0 then
    Option.bind (f_X10_assign s3 11) fun r5 =>
    Option.bind (f_X10_workerOn r5.2 a1) fun r6 =>
    Option.bind (
      if r6 = (-1 : Int32) then
        some (8 : Int32)
      else
        some (0 : Int32)
    ) fun (j7 : Int32) =>
    fu_lt (fu_pi r5.2 0 15 j7) fun s9 =>
    some (r6, s9)
  else
    some ((-1 : Int32), s3)
/-! X11_needs -/
def f_X11_needs (s : fu_S) (a1 : Int32) : Option (Int32 × fu_S) :=
  Option.bind (
    if (f_X4_hasPerson s 11 a1) = true then
      some (0 : Int32)
    else
      some (2 : Int32)
  ) fun (j1 : Int32) =>
  fu_lt (fu_pi s 0 15 j1) fun s3 =>
  if (s3.1 0 15) = 0 then
    Option.bind (f_X0_drawNeeds s3 11 (0 : Int32)) fun r5 =>
    Option.bind (f_X0_from r5 a1) fun r6 =>
    some (r6, r5)
  else
    some ((-1 : Int32), s3)
/-! X11_ring -/
def f_X11_ring (s : fu_S) : Option (Int32 × fu_S) :=
  Option.bind (f_X0_drawNeeds s 11 (0 : Int32)) fun r1 =>
  Option.bind (f_X0_shortestRing r1) fun r2 =>
  Option.bind (
    if r2 = (-1 : Int32) then
      some (8 : Int32)
    else
      some (0 : Int32)
  ) fun (j3 : Int32) =>
  fu_lt (fu_pi r1 0 15 j3) fun s5 =>
  some (r2, s5)
/-! X11_ending -/
def f_X11_ending (s : fu_S) : Option (Int32 × fu_S) :=
  fu_lt (fu_pi s 0 15 (0 : Int32)) fun s1 =>
  Option.bind (f_X0_leastEnding s1 11) fun r2 =>
  some ((f_J6_bitCount_0f7a4 r2.1), r2.2)
/-! X11_endingSet -/
def f_X11_endingSet (s : fu_S) : Option (Int32 × fu_S) :=
  fu_lt (fu_pi s 0 15 (0 : Int32)) fun s1 =>
  Option.bind (f_X0_leastEnding s1 11) fun r2 =>
  some (r2.1, r2.2)
/-! X11_couples -/
def f_X11_couples (s : fu_S) (a1 : Int32) (a2 : Int32) : Option (Int32 × fu_S) :=
  Option.bind (
    if (f_X4_hasPerson s 11 a1) = true then
      if (f_X4_isSpot 11 a2) = true then
        some (0 : Int32)
      else
        some (2 : Int32)
    else
      some (2 : Int32)
  ) fun (j1 : Int32) =>
  fu_lt (fu_pi s 0 15 j1) fun s4 =>
  Option.bind (
    if (s4.1 0 15) = 0 then
      Option.bind (f_X1_countCouples s4 11 a1 a2) fun r7 =>
      some r7
    else
      some (-1 : Int32)
  ) fun (j5 : Int32) =>
  some (j5, s4)
/-! X11_tell -/
def l_X11_tell_9 : Nat → fu_S → Int64 → Int64 → Int64 → Int64 → Int32 → Option (Int64)
  | 0, _, _, _, _, _, _ => none
  | n + 1, s, x1, x3, x5, x7, x9 =>
    if x9 < (200 : Int32) then
      if x7 = (0 : Int64) then
        some x5
      else
        if x7 = 0 then none else
        l_X11_tell_9 n s x1 x3 x7 (x5 - x5 / x7 * x7) (x9 + (1 : Int32))
    else
      some x5
def f_X11_tell (s : fu_S) (a1 : Int64) (a2 : Int64) : Option fu_S :=
  Option.bind (l_X11_tell_9 fu_N s a1 a2 a2 a1 (0 : Int32)) fun (r4 : Int64) =>
  Option.bind (
    if r4 = (0 : Int64) then
      some s
    else
      if r4 = 0 then none else
      fu_lt (fu_pl s 0 16 (a1 / r4)) fun s8 =>
      if r4 = 0 then none else
      fu_lt (fu_pl s8 0 17 (a2 / r4)) fun s10 =>
      some s10
  ) fun (j5 : fu_S) =>
  some j5
/-! X11_whose -/
def l_X11_whose_74 : Nat → fu_S → Int32 → Int32 → Int32 → Int32 → Int32 → Option (Int32)
  | 0, _, _, _, _, _, _ => none
  | n + 1, s, x1, x2, x3, x4, x5 =>
    if x5 < (f_X4_people s 11) then
      Option.bind (f_X1_weightOf s 11 x1 x2 x5) fun r10 =>
      l_X11_whose_74 n s x1 x2 x3 (x4 + r10) (x5 + (1 : Int32))
    else
      some x4
def f_X11_whose (s : fu_S) (a1 : Int32) (a2 : Int32) (a3 : Int32) : Option (Bool × fu_S) :=
  Option.bind (
    if (f_X4_hasPerson s 11 a1) = true then
      if (f_X4_isSpot 11 a2) = true then
        if (f_X4_hasPerson s 11 a3) = true then
          Option.bind (f_X1_countCouples s 11 a1 a2) fun r5 =>
          if r5 = 0 then
            some (8 : Int32)
          else
            some (0 : Int32)
        else
          some (2 : Int32)
      else
        some (2 : Int32)
    else
      some (2 : Int32)
  ) fun (j1 : Int32) =>
  fu_lt (fu_pi s 0 15 j1) fun s7 =>
  if (s7.1 0 15) = 0 then
    Option.bind (l_X11_whose_74 fu_N s7 a1 a2 a3 (0 : Int32) (0 : Int32)) fun (r11 : Int32) =>
    Option.bind (f_X1_weightOf s7 11 a1 a2 a3) fun r12 =>
    Option.bind (f_X11_tell s7 (Int32.toInt64 r12) (Int32.toInt64 r11)) fun r13 =>
    some (true, r13)
  else
    some (false, s7)
/-! X11_lawStatus -/
def f_X11_lawStatus (s : fu_S) (a1 : Int32) (a2 : Int32) : Option Int32 :=
  Option.bind (
    if (f_X7_isTray a1) = true then
      Option.bind (f_X7_isThere s a1) fun r3 =>
      if r3 = true then
        Option.bind (f_X7_lengthOf s a1) fun r5 =>
        if a2 ≤ (r5 / (3 : Int32)) then
          if a2 < 0 then
            some (5 : Int32)
          else
            if a2 ≤ (15 : Int32) then
              Option.bind (f_X1_areThrees s 11 a1 a2) fun r9 =>
              if r9 = true then
                some (0 : Int32)
              else
                some (5 : Int32)
            else
              some (5 : Int32)
        else
          some (4 : Int32)
      else
        some (3 : Int32)
    else
      some (1 : Int32)
  ) fun (j1 : Int32) =>
  some j1
/-! X11_laws -/
def f_X11_laws (s : fu_S) (a1 : Int32) (a2 : Int32) : Option (Int32 × fu_S) :=
  Option.bind (f_X11_lawStatus s a1 a2) fun r1 =>
  fu_lt (fu_pi s 0 15 r1) fun s2 =>
  Option.bind (
    if (s2.1 0 15) = 0 then
      Option.bind (f_X1_countLaws s2 11 a1 a2) fun r5 =>
      some r5
    else
      some (-1 : Int32)
  ) fun (j3 : Int32) =>
  some (j3, s2)
/-! X11_lawOf -/
def f_X11_lawOf (s : fu_S) (a1 : Int32) (a2 : Int32) (a3 : Int32) : Option (Int32 × fu_S) :=
  Option.bind (f_X11_lawStatus s a1 a2) fun r1 =>
  fu_lt (fu_pi s 0 15 r1) fun s2 =>
  Option.bind (
    if (s2.1 0 15) = 0 then
      if a3 = 0 then
        some s2
      else
        if a3 = (1 : Int32) then
          some s2
        else
          fu_lt (fu_pi s2 0 15 (5 : Int32)) fun s7 =>
          some s7
    else
      some s2
  ) fun (j3 : fu_S) =>
  if (j3.1 0 15) = 0 then
    Option.bind (f_X1_firstLaw j3 11 a1 a2) fun r9 =>
    Option.bind (
      if r9 = (-1 : Int32) then
        some (8 : Int32)
      else
        some (0 : Int32)
    ) fun (j10 : Int32) =>
    fu_lt (fu_pi j3 0 15 j10) fun s12 =>
    Option.bind (
      if r9 = (-1 : Int32) then
        some (-1 : Int32)
      else
        if a3 = 0 then
          some (r9 / (10 : Int32))
        else
          some (r9 - r9 / (10 : Int32) * (10 : Int32))
    ) fun (j13 : Int32) =>
    some (j13, s12)
  else
    some ((-1 : Int32), j3)
/-! X11_hands -/
def f_X11_hands (s : fu_S) (a1 : Int32) (a2 : Int32) : Option (Int32 × fu_S) :=
  fu_lt (fu_pi s 0 15 (f_X11_coupleStatus s a1 a2)) fun s1 =>
  if (s1.1 0 15) = 0 then
    Option.bind (f_X0_drawKinds s1 11) fun r3 =>
    Option.bind (f_X0_measureTo r3 a2) fun r4 =>
    Option.bind (f_X0_stepsFrom r4 a1) fun r5 =>
    Option.bind (
      if r5 = (-1 : Int32) then
        some (8 : Int32)
      else
        some (0 : Int32)
    ) fun (j6 : Int32) =>
    fu_lt (fu_pi r4 0 15 j6) fun s8 =>
    some (r5, s8)
  else
    some ((-1 : Int32), s1)
/-! X11_way -/
def f_X11_way (s : fu_S) (a1 : Int32) (a2 : Int32) (a3 : Int32) : Option (Int32 × fu_S) :=
  fu_lt (fu_pi s 0 15 (f_X11_coupleStatus s a1 a2)) fun s1 =>
  if (s1.1 0 15) = 0 then
    Option.bind (f_X0_drawKinds s1 11) fun r3 =>
    Option.bind (f_X0_measureTo r3 a2) fun r4 =>
    Option.bind (f_X0_passedBy r4 a1 a3) fun r5 =>
    Option.bind (
      if r5 = (-1 : Int32) then
        some (8 : Int32)
      else
        some (0 : Int32)
    ) fun (j6 : Int32) =>
    fu_lt (fu_pi r4 0 15 j6) fun s8 =>
    some (r5, s8)
  else
    some ((-1 : Int32), s1)
/-! X11_signs -/
def f_X11_signs (s : fu_S) (a1 : Int32) (a2 : Int32) : Option (Int32 × fu_S) :=
  fu_lt (fu_pi s 0 15 (f_X11_coupleStatus s a1 a2)) fun s1 =>
  Option.bind (
    if (s1.1 0 15) = 0 then
      Option.bind (f_X1_spotSet s1 11 a1 a2) fun r4 =>
      some (f_J6_bitCount_0f7a4 r4)
    else
      some (-1 : Int32)
  ) fun (j2 : Int32) =>
  some (j2, s1)
/-! X11_walk -/
def f_X11_walk (s : fu_S) (a1 : Int32) (a2 : Int32) : Option (Int32 × fu_S) :=
  Option.bind (
    if (f_X4_isHome 11 a1) = true then
      if (f_X4_isThingSet s 11 a2) = true then
        some (0 : Int32)
      else
        some (5 : Int32)
    else
      some (5 : Int32)
  ) fun (j1 : Int32) =>
  fu_lt (fu_pi s 0 15 j1) fun s4 =>
  Option.bind (
    if (s4.1 0 15) = 0 then
      Option.bind (f_X9_cost s4 11 a1 a2) fun r7 =>
      some r7
    else
      some (-1 : Int32)
  ) fun (j5 : Int32) =>
  some (j5, s4)
/-! X11_share -/
def f_X11_share (s : fu_S) (a1 : Int32) (a2 : Int32) (a3 : Int32) : Option (Bool × fu_S) :=
  Option.bind (
    if (f_X4_hasThing s 11 a3) = true then
      if (f_X4_isHome 11 a1) = true then
        if (f_X4_isThingSet s 11 a2) = true then
          if ((a2 >>> (a3 &&& 31)) &&& (1 : Int32)) = 0 then
            some (8 : Int32)
          else
            some (0 : Int32)
        else
          some (5 : Int32)
      else
        some (5 : Int32)
    else
      some (2 : Int32)
  ) fun (j1 : Int32) =>
  fu_lt (fu_pi s 0 15 j1) fun s6 =>
  Option.bind (
    if (s6.1 0 15) = 0 then
      Option.bind (f_X9_shareOfAllOrders s6 11 a1 a2 a3) fun r9 =>
      Option.bind (f_X9_orders (f_J6_bitCount_0f7a4 a2)) fun r10 =>
      Option.bind (f_X11_tell s6 r9 r10) fun r11 =>
      some r11
    else
      some s6
  ) fun (j7 : fu_S) =>
  Option.bind (
    if (j7.1 0 15) = 0 then
      some true
    else
      some false
  ) fun (j12 : Bool) =>
  some (j12, j7)
/-! X11_gameStatus -/
def f_X11_gameStatus (s : fu_S) (a1 : Int32) (a2 : Int32) (a3 : Int32) (a4 : Int32) : Int32 :=
  fu_lt (
    if (f_X11_coupleStatus s a1 a2) = 0 then
      if a1 = a2 then
        (5 : Int32)
      else
        if a3 < a4 then
          (5 : Int32)
        else
          if a3 ≤ (4 : Int32) then
            (0 : Int32)
          else
            (5 : Int32)
    else
      (2 : Int32)
  ) fun (j1 : Int32) =>
  j1
/-! X11_game -/
def f_X11_game (s : fu_S) (a1 : Int32) (a2 : Int32) (a3 : Int32) : Option (Int32 × fu_S) :=
  fu_lt (fu_pi s 0 15 (f_X11_gameStatus s a1 a2 a3 (0 : Int32))) fun s1 =>
  Option.bind (
    if (s1.1 0 15) = 0 then
      Option.bind (f_X10_gameWorth s1 11 a1 a2 a3) fun r4 =>
      some r4
    else
      some (-1 : Int32)
  ) fun (j2 : Int32) =>
  some (j2, s1)
/-! X11_moveOf -/
def f_X11_moveOf (s : fu_S) (a1 : Int32) (a2 : Int32) (a3 : Int32) : Option (Int32 × fu_S) :=
  fu_lt (fu_pi s 0 15 (f_X11_gameStatus s a1 a2 a3 (1 : Int32))) fun s1 =>
  if (s1.1 0 15) = 0 then
    Option.bind (f_X10_firstMove s1 11 a1 a2 a3) fun r3 =>
    Option.bind (
      if r3 = (-1 : Int32) then
        some (8 : Int32)
      else
        some (0 : Int32)
    ) fun (j4 : Int32) =>
    fu_lt (fu_pi s1 0 15 j4) fun s6 =>
    some (r3, s6)
  else
    some ((-1 : Int32), s1)
/-! X11_tongue -/
def l_X11_tongue_36 : Nat → fu_S → Int32 → Int64 → Int64 → Int32 → Option (Int64 × Int64)
  | 0, _, _, _, _, _ => none
  | n + 1, s, x1, x2, x4, x6 =>
    if x6 < x1 then
      l_X11_tongue_36 n s x1 (x2 * (16 : Int64)) (x4 * (Int32.toInt64 ((16 : Int32) - (f_X4_odds s 11)))) (x6 + (1 : Int32))
    else
      some (x2, x4)
def f_X11_tongue (s : fu_S) (a1 : Int32) : Option (Bool × fu_S) :=
  Option.bind (
    if a1 < 0 then
      some (5 : Int32)
    else
      if a1 ≤ (12 : Int32) then
        some (0 : Int32)
      else
        some (5 : Int32)
  ) fun (j1 : Int32) =>
  fu_lt (fu_pi s 0 15 j1) fun s4 =>
  if (s4.1 0 15) = 0 then
    Option.bind (l_X11_tongue_36 fu_N s4 a1 (1 : Int64) (1 : Int64) (0 : Int32)) fun (r7 : Int64 × Int64) =>
    Option.bind (f_X11_tell s4 (r7.1 - r7.2) r7.1) fun r8 =>
    some (true, r8)
  else
    some (false, s4)
/-! X11_live -/
def f_X11_live (s : fu_S) (a1 : Int32) : Option (Int32 × fu_S) :=
  Option.bind (
    if a1 < 0 then
      some (5 : Int32)
    else
      if a1 ≤ (9999 : Int32) then
        if (f_X5_isThere s 24) = true then
          some (0 : Int32)
        else
          some (8 : Int32)
      else
        some (5 : Int32)
  ) fun (j1 : Int32) =>
  fu_lt (fu_pi s 0 15 j1) fun s5 =>
  if (s5.1 0 15) = 0 then
    Option.bind (f_X3_run s5 106 24 11 a1) fun r7 =>
    some ((f_X3_steps r7 106), r7)
  else
    some ((-1 : Int32), s5)
/-! X11_lived -/
def f_X11_lived (s : fu_S) (a1 : Int32) : (Int32 × fu_S) :=
  fu_lt (
    if a1 < 0 then
      (5 : Int32)
    else
      if a1 ≤ (4 : Int32) then
        if (f_X3_wasRun s 106) = true then
          (0 : Int32)
        else
          (8 : Int32)
      else
        (5 : Int32)
  ) fun (j1 : Int32) =>
  fu_lt (fu_pi s 0 15 j1) fun s5 =>
  fu_lt (
    if (s5.1 0 15) = 0 then
      (f_X3_tally s5 106 a1)
    else
      (-1 : Int32)
  ) fun (j6 : Int32) =>
  (j6, s5)
/-! X11_mean -/
def l_X11_mean_62 : Nat → fu_S → Int32 → Int32 → Int64 → Int32 → Option (Int64 × fu_S)
  | 0, _, _, _, _, _ => none
  | n + 1, s, x1, x2, x3, x5 =>
    if x5 < x2 then
      fu_lt (f_X4_copyFrom s 29 11) fun r10 =>
      Option.bind (f_X3_run r10 108 24 29 (x1 + x5)) fun r11 =>
      Option.bind (f_X4_foundSet r11 29) fun r12 =>
      l_X11_mean_62 n r11 x1 x2 (x3 + (Int32.toInt64 (f_J6_bitCount_0f7a4 r12))) (x5 + (1 : Int32))
    else
      some (x3, s)
def f_X11_mean (s : fu_S) (a1 : Int32) (a2 : Int32) : Option (Bool × fu_S) :=
  Option.bind (
    if a1 < 0 then
      some (5 : Int32)
    else
      if a2 < (1 : Int32) then
        some (5 : Int32)
      else
        if a2 ≤ (20 : Int32) then
          if a1 ≤ ((10000 : Int32) - a2) then
            if (f_X5_isThere s 24) = true then
              some (0 : Int32)
            else
              some (8 : Int32)
          else
            some (5 : Int32)
        else
          some (5 : Int32)
  ) fun (j1 : Int32) =>
  fu_lt (fu_pi s 0 15 j1) fun s7 =>
  if (s7.1 0 15) = 0 then
    Option.bind (l_X11_mean_62 fu_N s7 a1 a2 (0 : Int64) (0 : Int32)) fun (r13 : Int64 × fu_S) =>
    Option.bind (f_X11_tell r13.2 r13.1 (Int32.toInt64 a2)) fun r14 =>
    some (true, r14)
  else
    some (false, s7)
/-! X11_mark -/
def f_X11_mark (s : fu_S) : Option (Int32 × fu_S) :=
  Option.bind (
    if (s.1 0 14) < (3 : Int32) then
      some (0 : Int32)
    else
      some (7 : Int32)
  ) fun (j1 : Int32) =>
  fu_lt (fu_pi s 0 15 j1) fun s3 =>
  if (s3.1 0 15) = 0 then
    if am_in (s3.1 0 14) 3 = true then
      fu_lt (f_X4_copyFrom s3 (fc_rr_50 (Int32.toNatClampNeg (s3.1 0 14))) 11) fun r6 =>
      if am_in (r6.1 0 14) 3 = true then
        fu_lt (f_X5_copyFrom r6 (fc_rr_90 (Int32.toNatClampNeg (r6.1 0 14))) 24) fun r8 =>
        fu_lt (fu_pi r8 0 14 ((r8.1 0 14) + (1 : Int32))) fun s9 =>
        some ((s9.1 0 14), s9)
      else none
    else none
  else
    some ((-1 : Int32), s3)
/-! X11_back -/
def f_X11_back (s : fu_S) : Option (Int32 × fu_S) :=
  Option.bind (
    if (s.1 0 14) ≤ 0 then
      some (8 : Int32)
    else
      some (0 : Int32)
  ) fun (j1 : Int32) =>
  fu_lt (fu_pi s 0 15 j1) fun s3 =>
  if (s3.1 0 15) = 0 then
    fu_lt (fu_pi s3 0 14 ((s3.1 0 14) - (1 : Int32))) fun s5 =>
    if am_in (s5.1 0 14) 3 = true then
      fu_lt (f_X4_copyFrom s5 11 (fc_rr_50 (Int32.toNatClampNeg (s5.1 0 14)))) fun r7 =>
      if am_in (r7.1 0 14) 3 = true then
        fu_lt (f_X5_copyFrom r7 24 (fc_rr_90 (Int32.toNatClampNeg (r7.1 0 14)))) fun r9 =>
        some ((r9.1 0 14), r9)
      else none
    else none
  else
    some ((-1 : Int32), s3)
