abbrev rm10_nextOf : Room := { frames := 2, cells := 0, slots := 0, locals := 43 }
def p10_nextOf_J57 (M : mMem) (rec5 : Nat → Int32 → Int32 → Int32 → Int32 → Option Int32) (a0 : Nat) (x1 : Int32) (x2 : Int32) (x3 : Int32) (x4 : Int32) : Option Int32 :=
  rec5 a0 x1 x2 x3 (x4 + 1)
def p10_nextOf_J50 (M : mMem) (rec5 : Nat → Int32 → Int32 → Int32 → Int32 → Option Int32) (a0 : Nat) (x1 : Int32) (x2 : Int32) (x3 : Int32) (x4 : Int32) : Option Int32 :=
  p10_nextOf_J57 M rec5 a0 x1 x2 (x3 ||| ((1 : Int32) <<< (x4 &&& 31))) x4
def p10_nextOf_L5 (M : mMem) : Nat → Nat → Int32 → Int32 → Int32 → Int32 → Option Int32
  | 0, _, _, _, _, _ => none
  | n + 1, a0, x1, x2, x3, x4 =>
    (getR M a0 10 0).bind fun v_1 =>
    (getI M v_1 3 4).bind fun v_2 =>
    if x4 < v_2 then
      if x2 = 0 then
        (getR M a0 10 0).bind fun v_3 =>
        (p2_governs v_3 x1 x4 M).bind fun v_4 =>
        if v_4 = 0 then
          p10_nextOf_J57 M (p10_nextOf_L5 M n) a0 x1 x2 x3 x4
        else
          p10_nextOf_J50 M (p10_nextOf_L5 M n) a0 x1 x2 x3 x4
      else
        (getR M a0 10 0).bind fun v_5 =>
        (p2_lentBy v_5 x1 x4 M).bind fun v_6 =>
        if 0 < v_6 then
          p10_nextOf_J50 M (p10_nextOf_L5 M n) a0 x1 x2 x3 x4
        else
          p10_nextOf_J57 M (p10_nextOf_L5 M n) a0 x1 x2 x3 x4
    else
      some x3
def p10_nextOf (a0 : Nat) (x1 : Int32) (x2 : Int32) (M : mMem) : Option Int32 :=
  gd M a0 10 (
    p10_nextOf_L5 M gF a0 x1 x2 0 0)
abbrev rm10_reached : Room := { frames := 3, cells := 0, slots := 0, locals := 67 }
def p10_reached_J52 (M : mMem) (rec20 : Nat → Int32 → Int32 → Int32 → Int32 → Option Int32) (a0 : Nat) (x2 : Int32) (x3 : Int32) (x4 : Int32) (x5 : Int32) : Option Int32 :=
  rec20 a0 x2 x3 x4 (x5 + 1)
def p10_reached_L20 (M : mMem) (k58 : Nat → Int32 → Int32 → Int32 → Option Int32) : Nat → Nat → Int32 → Int32 → Int32 → Int32 → Option Int32
  | 0, _, _, _, _, _ => none
  | n + 1, a0, x2, x3, x4, x5 =>
    (getR M a0 10 0).bind fun v_1 =>
    (getI M v_1 3 4).bind fun v_2 =>
    if x5 < v_2 then
      if ((x3 >>> (x5 &&& 31)) &&& 1) = 1 then
        (p10_nextOf a0 x5 x2 M).bind fun v_3 =>
        p10_reached_J52 M (p10_reached_L20 M k58 n) a0 x2 (x3 ||| v_3) x4 x5
      else
        p10_reached_J52 M (p10_reached_L20 M k58 n) a0 x2 x3 x4 x5
    else
      k58 a0 x2 x3 x4
def p10_reached_J58 (M : mMem) (rec10 : Nat → Int32 → Int32 → Int32 → Option Int32) (a0 : Nat) (x2 : Int32) (x3 : Int32) (x4 : Int32) : Option Int32 :=
  rec10 a0 x2 x3 (x4 + 1)
def p10_reached_L10 (M : mMem) : Nat → Nat → Int32 → Int32 → Int32 → Option Int32
  | 0, _, _, _, _ => none
  | n + 1, a0, x2, x3, x4 =>
    if x4 < 8 then
      p10_reached_L20 M (p10_reached_J58 M (p10_reached_L10 M n)) gF a0 x2 x3 x4 0
    else
      some x3
def p10_reached (a0 : Nat) (x1 : Int32) (x2 : Int32) (M : mMem) : Option Int32 :=
  gd M a0 10 (
    (p10_nextOf a0 x1 x2 M).bind fun v_1 =>
    p10_reached_L10 M gF a0 x2 v_1 0)
abbrev rm10_branchOf : Room := { frames := 1, cells := 0, slots := 0, locals := 21 }
def p10_branchOf_J55 (M : mMem) (rec4 : Nat → Int32 → Int32 → Int32 → Option Int32) (a0 : Nat) (x1 : Int32) (x2 : Int32) (x3 : Int32) : Option Int32 :=
  rec4 a0 x1 x2 (x3 + 1)
def p10_branchOf_J49 (M : mMem) (rec4 : Nat → Int32 → Int32 → Int32 → Option Int32) (a0 : Nat) (x1 : Int32) (x2 : Int32) (x3 : Int32) : Option Int32 :=
  p10_branchOf_J55 M rec4 a0 x1 (x2 ||| ((1 : Int32) <<< (x3 &&& 31))) x3
def p10_branchOf_L4 (M : mMem) : Nat → Nat → Int32 → Int32 → Int32 → Option Int32
  | 0, _, _, _, _ => none
  | n + 1, a0, x1, x2, x3 =>
    (getR M a0 10 0).bind fun v_1 =>
    (getI M v_1 3 4).bind fun v_2 =>
    if x3 < v_2 then
      (getR M a0 10 0).bind fun v_3 =>
      (p2_at v_3 x3 M).bind fun v_4 =>
      (getI M v_4 9 3).bind fun v_5 =>
      if x3 = x1 then
        p10_branchOf_J49 M (p10_branchOf_L4 M n) a0 x1 x2 x3
      else
        if v_5 = (-1) then
          p10_branchOf_J55 M (p10_branchOf_L4 M n) a0 x1 x2 x3
        else
          if ((x2 >>> (v_5 &&& 31)) &&& 1) = 1 then
            p10_branchOf_J49 M (p10_branchOf_L4 M n) a0 x1 x2 x3
          else
            p10_branchOf_J55 M (p10_branchOf_L4 M n) a0 x1 x2 x3
    else
      some x2
def p10_branchOf (a0 : Nat) (x1 : Int32) (M : mMem) : Option Int32 :=
  gd M a0 10 (
    p10_branchOf_L4 M gF a0 x1 0 0)
abbrev rm10_agesOf : Room := { frames := 1, cells := 0, slots := 0, locals := 21 }
def p10_agesOf_J40 (M : mMem) (rec4 : Nat → Int32 → Int32 → Int32 → Option Int32) (a0 : Nat) (x1 : Int32) (x3 : Int32) (u0 : Int32) (u1 : Int32) : Option Int32 :=
  rec4 a0 x1 (u0 + u1) (x3 + 1)
def p10_agesOf_L4 (M : mMem) : Nat → Nat → Int32 → Int32 → Int32 → Option Int32
  | 0, _, _, _, _ => none
  | n + 1, a0, x1, x2, x3 =>
    (getR M a0 10 0).bind fun v_1 =>
    (getI M v_1 3 4).bind fun v_2 =>
    if x3 < v_2 then
      if ((x1 >>> (x3 &&& 31)) &&& 1) = 1 then
        (getR M a0 10 0).bind fun v_3 =>
        (p2_at v_3 x3 M).bind fun v_4 =>
        (getI M v_4 9 0).bind fun v_5 =>
        p10_agesOf_J40 M (p10_agesOf_L4 M n) a0 x1 x3 x2 v_5
      else
        p10_agesOf_J40 M (p10_agesOf_L4 M n) a0 x1 x3 x2 0
    else
      some x2
def p10_agesOf (a0 : Nat) (x1 : Int32) (M : mMem) : Option Int32 :=
  gd M a0 10 (
    p10_agesOf_L4 M gF a0 x1 0 0)
abbrev rm10_youngestBranch : Room := { frames := 2, cells := 0, slots := 0, locals := 45 }
def p10_youngestBranch_J59 (M : mMem) (rec6 : Nat → Int32 → Int32 → Int32 → Option Int32) (a0 : Nat) (x1 : Int32) (x2 : Int32) (x3 : Int32) : Option Int32 :=
  rec6 a0 x1 x2 (x3 + 1)
def p10_youngestBranch_J54 (M : mMem) (rec6 : Nat → Int32 → Int32 → Int32 → Option Int32) (a0 : Nat) (x3 : Int32) (x4 : Int32) : Option Int32 :=
  p10_youngestBranch_J59 M rec6 a0 x3 x4 x3
def p10_youngestBranch_L6 (M : mMem) : Nat → Nat → Int32 → Int32 → Int32 → Option Int32
  | 0, _, _, _, _ => none
  | n + 1, a0, x1, x2, x3 =>
    (getR M a0 10 0).bind fun v_1 =>
    (getI M v_1 3 4).bind fun v_2 =>
    if x3 < v_2 then
      (getR M a0 10 0).bind fun v_3 =>
      (p2_at v_3 x3 M).bind fun v_4 =>
      (getI M v_4 9 3).bind fun v_5 =>
      if v_5 = (-1) then
        (p10_branchOf a0 x3 M).bind fun v_6 =>
        (p10_agesOf a0 v_6 M).bind fun v_7 =>
        if x1 = (-1) then
          p10_youngestBranch_J54 M (p10_youngestBranch_L6 M n) a0 x3 v_7
        else
          if v_7 < x2 then
            p10_youngestBranch_J54 M (p10_youngestBranch_L6 M n) a0 x3 v_7
          else
            p10_youngestBranch_J59 M (p10_youngestBranch_L6 M n) a0 x1 x2 x3
      else
        p10_youngestBranch_J59 M (p10_youngestBranch_L6 M n) a0 x1 x2 x3
    else
      some x1
def p10_youngestBranch (a0 : Nat) (M : mMem) : Option Int32 :=
  gd M a0 10 (
    p10_youngestBranch_L6 M gF a0 (-1) 0 0)
abbrev rm10_stepsUp : Room := { frames := 1, cells := 0, slots := 0, locals := 21 }
def p10_stepsUp_J43 (M : mMem) : Option Int32 :=
  some (-1)
def p10_stepsUp_L5 (M : mMem) : Nat → Nat → Int32 → Int32 → Int32 → Option Int32
  | 0, _, _, _, _ => none
  | n + 1, a0, x2, x3, x4 =>
    if x4 < 8 then
      if x3 = (-1) then
        p10_stepsUp_J43 M
      else
        if x3 = x2 then
          some x4
        else
          (getR M a0 10 0).bind fun v_1 =>
          (p2_at v_1 x3 M).bind fun v_2 =>
          (getI M v_2 9 3).bind fun v_3 =>
          (p10_stepsUp_L5 M n) a0 x2 v_3 (x4 + 1)
    else
      p10_stepsUp_J43 M
def p10_stepsUp (a0 : Nat) (x1 : Int32) (x2 : Int32) (M : mMem) : Option Int32 :=
  gd M a0 10 (
    p10_stepsUp_L5 M gF a0 x2 x1 0)
abbrev rm10_stepsBetween : Room := { frames := 2, cells := 0, slots := 0, locals := 45 }
def p10_stepsBetween_J55 (M : mMem) : Option Int32 :=
  some (-1)
def p10_stepsBetween_L5 (M : mMem) : Nat → Nat → Int32 → Int32 → Int32 → Option Int32
  | 0, _, _, _, _ => none
  | n + 1, a0, x2, x3, x4 =>
    if x4 < 8 then
      if x3 = (-1) then
        p10_stepsBetween_J55 M
      else
        (p10_stepsUp a0 x2 x3 M).bind fun v_1 =>
        if v_1 = (-1) then
          (getR M a0 10 0).bind fun v_2 =>
          (p2_at v_2 x3 M).bind fun v_3 =>
          (getI M v_3 9 3).bind fun v_4 =>
          (p10_stepsBetween_L5 M n) a0 x2 v_4 (x4 + 1)
        else
          some (x4 + v_1)
    else
      p10_stepsBetween_J55 M
def p10_stepsBetween (a0 : Nat) (x1 : Int32) (x2 : Int32) (M : mMem) : Option Int32 :=
  gd M a0 10 (
    p10_stepsBetween_L5 M gF a0 x2 x1 0)
abbrev rm10_grandparentOf : Room := { frames := 1, cells := 0, slots := 0, locals := 21 }
def p10_grandparentOf_J32 (M : mMem) (u0 : Int32) : Option Int32 :=
  some u0
def p10_grandparentOf (a0 : Nat) (x1 : Int32) (M : mMem) : Option Int32 :=
  gd M a0 10 (
    (getR M a0 10 0).bind fun v_1 =>
    (p2_at v_1 x1 M).bind fun v_2 =>
    (getI M v_2 9 3).bind fun v_3 =>
    if v_3 = (-1) then
      p10_grandparentOf_J32 M (-1)
    else
      (getR M a0 10 0).bind fun v_4 =>
      (p2_at v_4 v_3 M).bind fun v_5 =>
      (getI M v_5 9 3).bind fun v_6 =>
      p10_grandparentOf_J32 M v_6)
abbrev rm10_cousinsOf : Room := { frames := 2, cells := 0, slots := 0, locals := 43 }
def p10_cousinsOf_J76 (M : mMem) (rec24 : Nat → Int32 → Int32 → Int32 → Int32 → Option Int32) (a0 : Nat) (x2 : Int32) (x3 : Int32) (x4 : Int32) (x5 : Int32) : Option Int32 :=
  rec24 a0 x2 x3 x4 (x5 + 1)
def p10_cousinsOf_L24 (M : mMem) : Nat → Nat → Int32 → Int32 → Int32 → Int32 → Option Int32
  | 0, _, _, _, _, _ => none
  | n + 1, a0, x2, x3, x4, x5 =>
    (getR M a0 10 0).bind fun v_1 =>
    (getI M v_1 3 4).bind fun v_2 =>
    if x5 < v_2 then
      if x3 = (-1) then
        p10_cousinsOf_J76 M (p10_cousinsOf_L24 M n) a0 x2 x3 x4 x5
      else
        (p10_grandparentOf a0 x5 M).bind fun v_3 =>
        if v_3 = x3 then
          (getR M a0 10 0).bind fun v_4 =>
          (p2_at v_4 x5 M).bind fun v_5 =>
          (getI M v_5 9 3).bind fun v_6 =>
          if v_6 = x2 then
            p10_cousinsOf_J76 M (p10_cousinsOf_L24 M n) a0 x2 x3 x4 x5
          else
            p10_cousinsOf_J76 M (p10_cousinsOf_L24 M n) a0 x2 x3 (x4 ||| ((1 : Int32) <<< (x5 &&& 31))) x5
        else
          p10_cousinsOf_J76 M (p10_cousinsOf_L24 M n) a0 x2 x3 x4 x5
    else
      some x4
def p10_cousinsOf (a0 : Nat) (x1 : Int32) (M : mMem) : Option Int32 :=
  gd M a0 10 (
    (getR M a0 10 0).bind fun v_1 =>
    (p2_at v_1 x1 M).bind fun v_2 =>
    (getI M v_2 9 3).bind fun v_3 =>
    (p10_grandparentOf a0 x1 M).bind fun v_4 =>
    p10_cousinsOf_L24 M gF a0 v_3 v_4 0 0)
abbrev rm10_gainOfOne : Room := { frames := 0, cells := 0, slots := 0, locals := 0 }
def p10_gainOfOne_J16 (M : mMem) (u0 : Int32) : Option Int32 :=
  some u0
def p10_gainOfOne (x0 : Int32) (x1 : Int32) (x2 : Int32) (M : mMem) : Option Int32 :=
  if x1 = 1 then
    some x0
  else
    if x0 = 0 then
      p10_gainOfOne_J16 M x2
    else
      p10_gainOfOne_J16 M (-1)
abbrev rm10_gainOfOther : Room := { frames := 0, cells := 0, slots := 0, locals := 0 }
def p10_gainOfOther_J17 (M : mMem) (u0 : Int32) : Option Int32 :=
  some u0
def p10_gainOfOther (x0 : Int32) (x1 : Int32) (x2 : Int32) (x3 : Int32) (M : mMem) : Option Int32 :=
  if x1 = 1 then
    some 0
  else
    if x0 = 0 then
      p10_gainOfOther_J17 M (-x2)
    else
      p10_gainOfOther_J17 M x3
abbrev rm10_restingChoices : Room := { frames := 1, cells := 0, slots := 0, locals := 23 }
def p10_restingChoices_J79 (M : mMem) (rec15 : Int32 → Int32 → Int32 → Int32 → Int32 → Int32 → Option Int32) (x1 : Int32) (x2 : Int32) (x3 : Int32) (x4 : Int32) (x5 : Int32) (x6 : Int32) : Option Int32 :=
  rec15 x1 x2 x3 x4 x5 (x6 + 1)
def p10_restingChoices_L15 (M : mMem) (k85 : Int32 → Int32 → Int32 → Int32 → Int32 → Option Int32) : Nat → Int32 → Int32 → Int32 → Int32 → Int32 → Int32 → Option Int32
  | 0, _, _, _, _, _, _ => none
  | n + 1, x1, x2, x3, x4, x5, x6 =>
    if x6 < 2 then
      (p10_gainOfOne ((1 : Int32) - x5) x6 x1 M).bind fun v_1 =>
      (p10_gainOfOne x5 x6 x1 M).bind fun v_2 =>
      if v_2 < v_1 then
        p10_restingChoices_J79 M (p10_restingChoices_L15 M k85 n) x1 x2 x3 x4 x5 x6
      else
        (p10_gainOfOther x5 ((1 : Int32) - x6) x2 x3 M).bind fun v_3 =>
        (p10_gainOfOther x5 x6 x2 x3 M).bind fun v_4 =>
        if v_4 < v_3 then
          p10_restingChoices_J79 M (p10_restingChoices_L15 M k85 n) x1 x2 x3 x4 x5 x6
        else
          p10_restingChoices_J79 M (p10_restingChoices_L15 M k85 n) x1 x2 x3 (x4 ||| ((1 : Int32) <<< ((((2 : Int32) * x5) + x6) &&& 31))) x5 x6
    else
      k85 x1 x2 x3 x4 x5
def p10_restingChoices_J85 (M : mMem) (rec6 : Int32 → Int32 → Int32 → Int32 → Int32 → Option Int32) (x1 : Int32) (x2 : Int32) (x3 : Int32) (x4 : Int32) (x5 : Int32) : Option Int32 :=
  rec6 x1 x2 x3 x4 (x5 + 1)
def p10_restingChoices_L6 (M : mMem) : Nat → Int32 → Int32 → Int32 → Int32 → Int32 → Option Int32
  | 0, _, _, _, _, _ => none
  | n + 1, x1, x2, x3, x4, x5 =>
    if x5 < 2 then
      p10_restingChoices_L15 M (p10_restingChoices_J85 M (p10_restingChoices_L6 M n)) gF x1 x2 x3 x4 x5 0
    else
      some x4
def p10_restingChoices (a0 : Nat) (x1 : Int32) (x2 : Int32) (x3 : Int32) (M : mMem) : Option Int32 :=
  gd M a0 10 (
    p10_restingChoices_L6 M gF x1 x2 x3 0 0)
abbrev rm10_ways : Room := { frames := 0, cells := 0, slots := 0, locals := 0 }
def p10_ways_J15 (M : mMem) (w0 : Int64) : Option Int64 :=
  some w0
def p10_ways_J9 (M : mMem) : Option Int64 :=
  p10_ways_J15 M 1
def p10_ways (x0 : Int32) (x1 : Int32) (M : mMem) : Option Int64 :=
  if x1 = 0 then
    p10_ways_J9 M
  else
    if x1 = x0 then
      p10_ways_J9 M
    else
      p10_ways_J15 M (x0.toInt64)
abbrev rm10_power : Room := { frames := 0, cells := 0, slots := 0, locals := 0 }
def p10_power_L5 (M : mMem) : Nat → Int64 → Int32 → Int64 → Int32 → Option Int64
  | 0, _, _, _, _ => none
  | n + 1, y0, x2, y3, x5 =>
    if x5 < x2 then
      (p10_power_L5 M n) y0 x2 (y3 * y0) (x5 + 1)
    else
      some y3
def p10_power (y0 : Int64) (x2 : Int32) (M : mMem) : Option Int64 :=
  p10_power_L5 M gF y0 x2 1 0
abbrev rm10_chanceOfNo : Room := { frames := 2, cells := 0, slots := 0, locals := 43 }
def p10_chanceOfNo_J73 (M : mMem) (rec29 : Nat → Int32 → Int32 → Int32 → Int32 → Int64 → Int32 → Option Int32) (a0 : Nat) (x1 : Int32) (x2 : Int32) (x3 : Int32) (x4 : Int32) (x7 : Int32) (w0 : Int64) (w1 : Int64) : Option Int32 :=
  rec29 a0 x1 x2 x3 x4 (w0 + w1) (x7 + 1)
def p10_chanceOfNo_L29 (M : mMem) (k82 : Nat → Int32 → Int32 → Int32 → Int32 → Int64 → Option Int32) : Nat → Nat → Int32 → Int32 → Int32 → Int32 → Int64 → Int32 → Option Int32
  | 0, _, _, _, _, _, _, _ => none
  | n + 1, a0, x1, x2, x3, x4, y5, x7 =>
    (getR M a0 10 0).bind fun v_1 =>
    (getI M v_1 3 4).bind fun v_2 =>
    if x7 < v_2 then
      (getR M a0 10 0).bind fun v_3 =>
      (p2_governs v_3 x7 x1 M).bind fun v_4 =>
      if v_4 = 0 then
        p10_chanceOfNo_J73 M (p10_chanceOfNo_L29 M k82 n) a0 x1 x2 x3 x4 x7 y5 0
      else
        (getR M a0 10 0).bind fun v_5 =>
        (p2_at v_5 x7 M).bind fun v_6 =>
        (getI M v_6 9 6).bind fun v_7 =>
        p10_chanceOfNo_J73 M (p10_chanceOfNo_L29 M k82 n) a0 x1 x2 x3 x4 x7 y5 (v_7.toInt64)
    else
      k82 a0 x1 x2 x3 x4 y5
def p10_chanceOfNo_L117 (M : mMem) (k136 : Int32 → Int32 → Int64 → Int64 → Int64 → Int64 → Option Int32) : Nat → Int32 → Int32 → Int64 → Int64 → Int64 → Int64 → Int32 → Option Int32
  | 0, _, _, _, _, _, _, _ => none
  | n + 1, x2, x3, y7, y9, y11, y13, x15 =>
    if x15 < x2 then
      (p10_chanceOfNo_L117 M k136 n) x2 x3 y7 y9 y11 (y13 * y7) (x15 + 1)
    else
      k136 x2 x3 y7 y9 y11 y13
def p10_chanceOfNo_L139 (M : mMem) (k183 : Int64 → Int64 → Option Int32) : Nat → Int32 → Int64 → Int64 → Int64 → Int64 → Int32 → Option Int32
  | 0, _, _, _, _, _, _ => none
  | n + 1, x2, y7, y9, y11, y13, x15 =>
    if x2 < x15 then
      k183 y11 y13
    else
      (p10_ways x2 x15 M).bind fun v_1 =>
      (p10_power y9 x15 M).bind fun v_2 =>
      (p10_power (y7 - y9) (x2 - x15) M).bind fun v_3 =>
      (p10_chanceOfNo_L139 M k183 n) x2 y7 y9 (y11 + ((v_1 * v_2) * v_3)) y13 (x15 + 1)
def p10_chanceOfNo_J204 (M : mMem) (u0 : Int32) : Option Int32 :=
  some u0
def p10_chanceOfNo_J183 (M : mMem) (y11 : Int64) (y13 : Int64) : Option Int32 :=
  if 0 < (lg_cmp y13 0) then
    (divL ((10000 : Int64) * y11) y13).bind fun v_1 =>
    p10_chanceOfNo_J204 M (v_1.toInt32)
  else
    p10_chanceOfNo_J204 M 0
def p10_chanceOfNo_J136 (M : mMem) (x2 : Int32) (x3 : Int32) (y7 : Int64) (y9 : Int64) (y11 : Int64) (y13 : Int64) : Option Int32 :=
  p10_chanceOfNo_L139 M (p10_chanceOfNo_J183 M) gF x2 y7 y9 y11 y13 x3
def p10_chanceOfNo_J82 (M : mMem) (a0 : Nat) (x1 : Int32) (x2 : Int32) (x3 : Int32) (x4 : Int32) (y5 : Int64) : Option Int32 :=
  (getR M a0 10 0).bind fun v_1 =>
  (p2_at v_1 x1 M).bind fun v_2 =>
  (getI M v_2 9 5).bind fun v_3 =>
  p10_chanceOfNo_L117 M (p10_chanceOfNo_J136 M) gF x2 x3 ((10000 : Int64) * (x4.toInt64)) ((v_3.toInt64) * y5) 0 1 0
def p10_chanceOfNo (a0 : Nat) (x1 : Int32) (x2 : Int32) (x3 : Int32) (M : mMem) : Option Int32 :=
  gd M a0 10 (
    (getR M a0 10 0).bind fun v_1 =>
    (p2_at v_1 x1 M).bind fun v_2 =>
    (getI M v_2 9 8).bind fun v_3 =>
    (pJ6_bitCount v_3 M).bind fun v_4 =>
    if v_4 = 0 then
      some 0
    else
      p10_chanceOfNo_L29 M (p10_chanceOfNo_J82 M) gF a0 x1 x2 x3 v_4 0 0)
abbrev rm11_init : Room := { frames := 4, cells := 318, slots := 15700, locals := 95 }
def p11_init_L208 : Nat → Nat → Int32 → mMem → Option mMem
  | 0, _, _, _ => none
  | n + 1, a0, x1, M =>
    (getR M a0 11 9).bind fun v_1 =>
    (lenA M v_1).bind fun v_2 =>
    if x1 < v_2 then
      (getR M a0 11 9).bind fun v_3 =>
      (newC M 3 0).bind fun n_4 =>
      (p2_init n_4.1 n_4.2).bind fun q_5 =>
      (astR q_5 v_3 23 3 x1 n_4.1).bind fun M_6 =>
      (p11_init_L208 n) a0 (x1 + 1) M_6
    else
      some M
def p11_init (a0 : Nat) (M : mMem) : Option mMem :=
  gd M a0 11 (
    (newC M 20 400).bind fun n_1 =>
    (putR n_1.2 a0 11 0 n_1.1).bind fun M_2 =>
    (putI M_2 a0 11 1 0).bind fun M_3 =>
    (putI M_3 a0 11 2 (-1)).bind fun M_4 =>
    (newC M_4 3 0).bind fun n_5 =>
    (p2_init n_5.1 n_5.2).bind fun q_6 =>
    (putR q_6 a0 11 3 n_5.1).bind fun M_7 =>
    (newC M_7 3 0).bind fun n_8 =>
    (p2_init n_8.1 n_8.2).bind fun q_9 =>
    (putR q_9 a0 11 4 n_8.1).bind fun M_10 =>
    (newC M_10 5 0).bind fun n_11 =>
    (p4_init n_11.1 n_11.2).bind fun q_12 =>
    (putR q_12 a0 11 5 n_11.1).bind fun M_13 =>
    (newC M_13 5 0).bind fun n_14 =>
    (p4_init n_14.1 n_14.2).bind fun q_15 =>
    (putR q_15 a0 11 6 n_14.1).bind fun M_16 =>
    (newC M_16 4 0).bind fun n_17 =>
    (getR n_17.2 a0 11 4).bind fun v_18 =>
    (p3_init n_17.1 v_18 n_17.2).bind fun q_19 =>
    (putR q_19 a0 11 7 n_17.1).bind fun M_20 =>
    (newC M_20 6 0).bind fun n_21 =>
    (getR n_21.2 a0 11 6).bind fun v_22 =>
    (p5_init n_21.1 v_22 n_21.2).bind fun q_23 =>
    (putR q_23 a0 11 8 n_21.1).bind fun M_24 =>
    (newC M_24 23 12).bind fun n_25 =>
    (putR n_25.2 a0 11 9 n_25.1).bind fun M_26 =>
    (putI M_26 a0 11 10 0).bind fun M_27 =>
    (newC M_27 3 0).bind fun n_28 =>
    (p2_init n_28.1 n_28.2).bind fun q_29 =>
    (putR q_29 a0 11 11 n_28.1).bind fun M_30 =>
    (newC M_30 5 0).bind fun n_31 =>
    (p4_init n_31.1 n_31.2).bind fun q_32 =>
    (putR q_32 a0 11 12 n_31.1).bind fun M_33 =>
    (putI M_33 a0 11 13 0).bind fun M_34 =>
    (newC M_34 2 0).bind fun n_35 =>
    (getR n_35.2 a0 11 3).bind fun v_36 =>
    (getR n_35.2 a0 11 5).bind fun v_37 =>
    (p1_init n_35.1 v_36 v_37 n_35.2).bind fun q_38 =>
    (putR q_38 a0 11 14 n_35.1).bind fun M_39 =>
    (newC M_39 1 0).bind fun n_40 =>
    (getR n_40.2 a0 11 3).bind fun v_41 =>
    (getR n_40.2 a0 11 5).bind fun v_42 =>
    (p0_init n_40.1 v_41 v_42 n_40.2).bind fun q_43 =>
    (putR q_43 a0 11 15 n_40.1).bind fun M_44 =>
    (newC M_44 8 0).bind fun n_45 =>
    (getR n_45.2 a0 11 3).bind fun v_46 =>
    (p7_init n_45.1 v_46 n_45.2).bind fun q_47 =>
    (putR q_47 a0 11 16 n_45.1).bind fun M_48 =>
    (newC M_48 10 0).bind fun n_49 =>
    (getR n_49.2 a0 11 3).bind fun v_50 =>
    (p10_init n_49.1 v_50 n_49.2).bind fun q_51 =>
    (putR q_51 a0 11 17 n_49.1).bind fun M_52 =>
    p11_init_L208 13 a0 0 M_52)
abbrev rm11_putOnTape : Room := { frames := 0, cells := 0, slots := 0, locals := 0 }
def p11_putOnTape_J52 (rec3 : Nat → Int32 → Int32 → mMem → Option mMem) (a0 : Nat) (x1 : Int32) (x2 : Int32) (M : mMem) : Option mMem :=
  rec3 a0 x1 (x2 + (-8)) M
def p11_putOnTape_L3 : Nat → Nat → Int32 → Int32 → mMem → Option mMem
  | 0, _, _, _, _ => none
  | n + 1, a0, x1, x2, M =>
    if x2 < 0 then
      some M
    else
      (getI M a0 11 1).bind fun v_1 =>
      if v_1 < 0 then
        p11_putOnTape_J52 (p11_putOnTape_L3 n) a0 x1 x2 M
      else
        (getI M a0 11 1).bind fun v_2 =>
        (getR M a0 11 0).bind fun v_3 =>
        (lenA M v_3).bind fun v_4 =>
        if v_2 < v_4 then
          (getR M a0 11 0).bind fun v_5 =>
          (getI M a0 11 1).bind fun v_6 =>
          (astI M v_5 v_6 ((ushr x1 x2) &&& 255)).bind fun M_7 =>
          (getI M_7 a0 11 1).bind fun v_8 =>
          (putI M_7 a0 11 1 (v_8 + 1)).bind fun M_9 =>
          p11_putOnTape_J52 (p11_putOnTape_L3 n) a0 x1 x2 M_9
        else
          p11_putOnTape_J52 (p11_putOnTape_L3 n) a0 x1 x2 M
def p11_putOnTape (a0 : Nat) (x1 : Int32) (M : mMem) : Option mMem :=
  gd M a0 11 (
    p11_putOnTape_L3 gF a0 x1 24 M)
abbrev rm11_feed : Room := { frames := 1, cells := 0, slots := 0, locals := 22 }
def p11_feed (a0 : Nat) (x1 : Int32) (x2 : Int32) (x3 : Int32) (x4 : Int32) (x5 : Int32) (M : mMem) : Option (Int32 × mMem) :=
  gd M a0 11 (
    (getI M a0 11 1).bind fun v_1 =>
    if 400 < (v_1 + 20) then
      some ((-1), M)
    else
      (p11_putOnTape a0 x1 M).bind fun q_2 =>
      (p11_putOnTape a0 x2 q_2).bind fun q_3 =>
      (p11_putOnTape a0 x3 q_3).bind fun q_4 =>
      (p11_putOnTape a0 x4 q_4).bind fun q_5 =>
      (p11_putOnTape a0 x5 q_5).bind fun q_6 =>
      (getI q_6 a0 11 1).bind fun v_7 =>
      some (v_7, q_6))
abbrev rm11_usedTape : Room := { frames := 0, cells := 0, slots := 0, locals := 0 }
def p11_usedTape (a0 : Nat) (M : mMem) : Option (Int32 × mMem) :=
  gd M a0 11 (
    (getI M a0 11 1).bind fun v_1 =>
    (putI M a0 11 1 0).bind fun M_2 =>
    some (v_1, M_2))
abbrev rm11_end : Room := { frames := 0, cells := 0, slots := 0, locals := 0 }
def p11_end_J12 (M : mMem) : Option (Int32 × mMem) :=
  some (0, M)
def p11_end (a0 : Nat) (x1 : Int32) (M : mMem) : Option (Int32 × mMem) :=
  gd M a0 11 (
    if x1 < 0 then
      p11_end_J12 M
    else
      (getI M a0 11 1).bind fun v_1 =>
      if v_1 < x1 then
        p11_end_J12 M
      else
        (putI M a0 11 1 x1).bind fun M_2 =>
        some (1, M_2))
abbrev rm11_fault : Room := { frames := 0, cells := 0, slots := 0, locals := 0 }
def p11_fault (a0 : Nat) (M : mMem) : Option Int32 :=
  gd M a0 11 (
    (getI M a0 11 2).bind fun v_1 =>
    some v_1)
abbrev rm11_remember : Room := { frames := 3, cells := 0, slots := 0, locals := 91 }
def p11_remember_J119 (M : mMem) : Option mMem :=
  some M
def p11_remember_J74 (a0 : Nat) (M : mMem) : Option mMem :=
  (getI M a0 11 10).bind fun v_1 =>
  if v_1 < 0 then
    p11_remember_J119 M
  else
    (getI M a0 11 10).bind fun v_2 =>
    (getR M a0 11 9).bind fun v_3 =>
    (lenA M v_3).bind fun v_4 =>
    if v_2 < v_4 then
      (getR M a0 11 9).bind fun v_5 =>
      (getI M a0 11 10).bind fun v_6 =>
      (aldR M v_5 23 v_6).bind fun v_7 =>
      (getR M a0 11 3).bind fun v_8 =>
      (p2_take v_7 v_8 M).bind fun q_9 =>
      (getI q_9 a0 11 10).bind fun v_10 =>
      (putI q_9 a0 11 10 (v_10 + 1)).bind fun M_11 =>
      p11_remember_J119 M_11
    else
      p11_remember_J119 M
def p11_remember_L21 (k50 : Nat → Nat → mMem → Option mMem) : Nat → Nat → Nat → Int32 → mMem → Option mMem
  | 0, _, _, _, _ => none
  | n + 1, a0, a1, x2, M =>
    (getR M a0 11 9).bind fun v_1 =>
    (lenA M v_1).bind fun v_2 =>
    if x2 < v_2 then
      (getR M a0 11 9).bind fun v_3 =>
      (getR M a0 11 9).bind fun v_4 =>
      (aldR M v_4 23 x2).bind fun v_5 =>
      (astR M v_3 23 3 (x2 - 1) v_5).bind fun M_6 =>
      (p11_remember_L21 k50 n) a0 a1 (x2 + 1) M_6
    else
      k50 a0 a1 M
def p11_remember_J50 (a0 : Nat) (a1 : Nat) (M : mMem) : Option mMem :=
  (getR M a0 11 9).bind fun v_1 =>
  (getR M a0 11 9).bind fun v_2 =>
  (lenA M v_2).bind fun v_3 =>
  (astR M v_1 23 3 (v_3 - 1) a1).bind fun M_4 =>
  (getR M_4 a0 11 9).bind fun v_5 =>
  (lenA M_4 v_5).bind fun v_6 =>
  (putI M_4 a0 11 10 (v_6 - 1)).bind fun M_7 =>
  p11_remember_J74 a0 M_7
def p11_remember (a0 : Nat) (M : mMem) : Option mMem :=
  gd M a0 11 (
    (getI M a0 11 10).bind fun v_1 =>
    (getR M a0 11 9).bind fun v_2 =>
    (lenA M v_2).bind fun v_3 =>
    if v_1 < v_3 then
      p11_remember_J74 a0 M
    else
      (getR M a0 11 9).bind fun v_4 =>
      (aldR M v_4 23 0).bind fun v_5 =>
      p11_remember_L21 p11_remember_J50 gF a0 v_5 1 M)
abbrev rm11_cradle : Room := { frames := 5, cells := 0, slots := 0, locals := 131 }
def p11_cradle (a0 : Nat) (x1 : Int32) (x2 : Int32) (M : mMem) : Option (Int32 × mMem) :=
  gd M a0 11 (
    (getR M a0 11 14).bind fun v_1 =>
    (p1_firstInCrib v_1 x1 x2 M).bind fun q_2 =>
    some (q_2.1, q_2.2))
abbrev rm11_again : Room := { frames := 5, cells := 0, slots := 0, locals := 129 }
def p11_again (a0 : Nat) (x1 : Int32) (M : mMem) : Option (Int32 × mMem) :=
  gd M a0 11 (
    (getR M a0 11 14).bind fun v_1 =>
    (p1_firstAsNow v_1 x1 M).bind fun q_2 =>
    some (q_2.1, q_2.2))
abbrev rm11_match : Room := { frames := 69, cells := 0, slots := 0, locals := 1645 }
def p11_match_J28 (u0 : Int32) (M : mMem) : Option (Int32 × mMem) :=
  some (u0, M)
def p11_match (a0 : Nat) (x1 : Int32) (M : mMem) : Option (Int32 × mMem) :=
  gd M a0 11 (
    (getR M a0 11 16).bind fun v_1 =>
    (p7_bestMatching v_1 M).bind fun q_2 =>
    if x1 = 0 then
      (getR q_2 a0 11 16).bind fun v_3 =>
      (getI q_2 v_3 8 4).bind fun v_4 =>
      p11_match_J28 v_4 q_2
    else
      (getR q_2 a0 11 16).bind fun v_5 =>
      (getI q_2 v_5 8 5).bind fun v_6 =>
      p11_match_J28 v_6 q_2)
abbrev rm11_runs : Room := { frames := 4, cells := 0, slots := 0, locals := 101 }
def p11_runs (a0 : Nat) (M : mMem) : Option Int32 :=
  gd M a0 11 (
    (getR M a0 11 16).bind fun v_1 =>
    (p7_runaways v_1 M).bind fun v_2 =>
    some v_2)
abbrev rm11_net : Room := { frames := 3, cells := 0, slots := 0, locals := 67 }
def p11_net (a0 : Nat) (M : mMem) : Option Int32 :=
  gd M a0 11 (
    (getR M a0 11 17).bind fun v_1 =>
    (p10_netDebts v_1 M).bind fun v_2 =>
    some v_2)
abbrev rm11_rich : Room := { frames := 1, cells := 0, slots := 0, locals := 21 }
def p11_rich_J47 (M : mMem) (rec4 : Nat → Int32 → Int32 → Option Int32) (a0 : Nat) (x1 : Int32) (x2 : Int32) : Option Int32 :=
  rec4 a0 x1 (x2 + 1)
def p11_rich_J45 (M : mMem) (rec4 : Nat → Int32 → Int32 → Option Int32) (a0 : Nat) (x2 : Int32) : Option Int32 :=
  p11_rich_J47 M rec4 a0 x2 x2
def p11_rich_L4 (M : mMem) : Nat → Nat → Int32 → Int32 → Option Int32
  | 0, _, _, _ => none
  | n + 1, a0, x1, x2 =>
    (getR M a0 11 3).bind fun v_1 =>
    (getI M v_1 3 4).bind fun v_2 =>
    if x2 < v_2 then
      if x1 = (-1) then
        p11_rich_J45 M (p11_rich_L4 M n) a0 x2
      else
        (getR M a0 11 3).bind fun v_3 =>
        (p2_at v_3 x2 M).bind fun v_4 =>
        (getI M v_4 9 7).bind fun v_5 =>
        (getR M a0 11 3).bind fun v_6 =>
        (p2_at v_6 x1 M).bind fun v_7 =>
        (getI M v_7 9 7).bind fun v_8 =>
        if v_8 < v_5 then
          p11_rich_J45 M (p11_rich_L4 M n) a0 x2
        else
          p11_rich_J47 M (p11_rich_L4 M n) a0 x1 x2
    else
      some x1
def p11_rich (a0 : Nat) (M : mMem) : Option Int32 :=
  gd M a0 11 (
    p11_rich_L4 M gF a0 (-1) 0)
abbrev rm11_senior : Room := { frames := 3, cells := 0, slots := 0, locals := 69 }
def p11_senior (a0 : Nat) (M : mMem) : Option Int32 :=
  gd M a0 11 (
    (getR M a0 11 17).bind fun v_1 =>
    (p10_youngestBranch v_1 M).bind fun v_2 =>
    some v_2)
abbrev rm11_free : Room := { frames := 1, cells := 0, slots := 0, locals := 21 }
def p11_free_J35 (M : mMem) (rec4 : Nat → Int32 → Int32 → Option Int32) (a0 : Nat) (x1 : Int32) (x2 : Int32) : Option Int32 :=
  rec4 a0 x1 (x2 + 1)
def p11_free_L4 (M : mMem) : Nat → Nat → Int32 → Int32 → Option Int32
  | 0, _, _, _ => none
  | n + 1, a0, x1, x2 =>
    (getR M a0 11 3).bind fun v_1 =>
    (getI M v_1 3 4).bind fun v_2 =>
    if x2 < v_2 then
      (getR M a0 11 3).bind fun v_3 =>
      (p2_at v_3 x2 M).bind fun v_4 =>
      (getI M v_4 9 8).bind fun v_5 =>
      if v_5 = 0 then
        p11_free_J35 M (p11_free_L4 M n) a0 (x1 ||| ((1 : Int32) <<< (x2 &&& 31))) x2
      else
        p11_free_J35 M (p11_free_L4 M n) a0 x1 x2
    else
      some x1
def p11_free (a0 : Nat) (M : mMem) : Option Int32 :=
  gd M a0 11 (
    p11_free_L4 M gF a0 0 0)
abbrev rm11_twins : Room := { frames := 1, cells := 0, slots := 0, locals := 21 }
def p11_twins_J58 (M : mMem) (rec19 : Nat → Int32 → Int32 → Int32 → Option Int32) (a0 : Nat) (x1 : Int32) (x2 : Int32) (x3 : Int32) : Option Int32 :=
  rec19 a0 x1 x2 (x3 + 1)
def p11_twins_L19 (M : mMem) (k64 : Nat → Int32 → Int32 → Option Int32) : Nat → Nat → Int32 → Int32 → Int32 → Option Int32
  | 0, _, _, _, _ => none
  | n + 1, a0, x1, x2, x3 =>
    (getR M a0 11 3).bind fun v_1 =>
    (getI M v_1 3 4).bind fun v_2 =>
    if x3 < v_2 then
      (getR M a0 11 3).bind fun v_3 =>
      (p2_at v_3 x2 M).bind fun v_4 =>
      (getI M v_4 9 0).bind fun v_5 =>
      (getR M a0 11 3).bind fun v_6 =>
      (p2_at v_6 x3 M).bind fun v_7 =>
      (getI M v_7 9 0).bind fun v_8 =>
      if v_5 = v_8 then
        p11_twins_J58 M (p11_twins_L19 M k64 n) a0 (x1 + 1) x2 x3
      else
        p11_twins_J58 M (p11_twins_L19 M k64 n) a0 x1 x2 x3
    else
      k64 a0 x1 x2
def p11_twins_J64 (M : mMem) (rec4 : Nat → Int32 → Int32 → Option Int32) (a0 : Nat) (x1 : Int32) (x2 : Int32) : Option Int32 :=
  rec4 a0 x1 (x2 + 1)
def p11_twins_L4 (M : mMem) : Nat → Nat → Int32 → Int32 → Option Int32
  | 0, _, _, _ => none
  | n + 1, a0, x1, x2 =>
    (getR M a0 11 3).bind fun v_1 =>
    (getI M v_1 3 4).bind fun v_2 =>
    if x2 < v_2 then
      p11_twins_L19 M (p11_twins_J64 M (p11_twins_L4 M n)) gF a0 x1 x2 (x2 + 1)
    else
      some x1
def p11_twins (a0 : Nat) (M : mMem) : Option Int32 :=
  gd M a0 11 (
    p11_twins_L4 M gF a0 0 0)
abbrev rm11_mean : Room := { frames := 2, cells := 0, slots := 0, locals := 43 }
def p11_mean_J29 (M : mMem) (u0 : Int32) : Option Int32 :=
  some u0
def p11_mean (a0 : Nat) (M : mMem) : Option Int32 :=
  gd M a0 11 (
    (getR M a0 11 3).bind fun v_1 =>
    (getI M v_1 3 4).bind fun v_2 =>
    if 0 < v_2 then
      (getR M a0 11 3).bind fun v_3 =>
      (p2_agesTogether v_3 M).bind fun v_4 =>
      (getR M a0 11 3).bind fun v_5 =>
      (getI M v_5 3 4).bind fun v_6 =>
      (divI v_4 v_6).bind fun v_7 =>
      p11_mean_J29 M v_7
    else
      p11_mean_J29 M 0)
