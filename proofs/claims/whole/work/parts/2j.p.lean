abbrev rm12_part : Room := { frames := 3, cells := 0, slots := 0, locals := 64 }
def p12_part_J31 (M : mMem) : Option (Int32 × mMem) :=
  some (0, M)
def p12_part (a0 : Nat) (x1 : Int32) (M : mMem) : Option (Int32 × mMem) :=
  gd M a0 12 (
    (putI M a0 12 0 0).bind fun M_1 =>
    (p12_nobody a0 x1 M_1).bind fun v_2 =>
    (p12_throwsIf a0 v_2 1 M_1).bind fun q_3 =>
    if q_3.1 = 0 then
      (p12_isSingle a0 x1 q_3.2).bind fun v_4 =>
      (p12_throwsIf a0 v_4 2 q_3.2).bind fun q_5 =>
      if q_5.1 = 0 then
        (p12_remembers a0 q_5.2).bind fun q_6 =>
        (p12_of a0 x1 4 q_6).bind fun v_7 =>
        (getR q_6 a0 12 1).bind fun v_8 =>
        (p12_at x1 4 q_6).bind fun v_9 =>
        (astI q_6 v_8 v_9 (-1)).bind fun M_10 =>
        (getR M_10 a0 12 1).bind fun v_11 =>
        (p12_at v_7 4 M_10).bind fun v_12 =>
        (astI M_10 v_11 v_12 (-1)).bind fun M_13 =>
        some (v_7, M_13)
      else
        p12_part_J31 q_5.2
    else
      p12_part_J31 q_3.2)
abbrev rm12_lend : Room := { frames := 3, cells := 0, slots := 0, locals := 65 }
def p12_lend_J58 (M : mMem) : Option (Int32 × mMem) :=
  some (0, M)
def p12_lend_J51 (a0 : Nat) (x1 : Int32) (x2 : Int32) (b0 : Nat) (u1 : Int32) (M : mMem) : Option (Int32 × mMem) :=
  (p12_throwsIf b0 u1 3 M).bind fun q_1 =>
  if q_1.1 = 0 then
    (p12_remembers a0 q_1.2).bind fun q_2 =>
    (getR q_2 a0 12 1).bind fun v_3 =>
    (p12_at x1 7 q_2).bind fun v_4 =>
    (aldI q_2 v_3 20 v_4).bind fun v_5 =>
    (astI q_2 v_3 v_4 (v_5 - 1)).bind fun M_6 =>
    (getR M_6 a0 12 1).bind fun v_7 =>
    (p12_at x2 7 M_6).bind fun v_8 =>
    (aldI M_6 v_7 20 v_8).bind fun v_9 =>
    (astI M_6 v_7 v_8 (v_9 + 1)).bind fun M_10 =>
    (getR M_10 a0 12 1).bind fun v_11 =>
    (p12_at x1 ((9 : Int32) + x2) M_10).bind fun v_12 =>
    (aldI M_10 v_11 20 v_12).bind fun v_13 =>
    (astI M_10 v_11 v_12 (v_13 + 1)).bind fun M_14 =>
    (p12_of a0 x1 7 M_14).bind fun v_15 =>
    some (v_15, M_14)
  else
    p12_lend_J58 q_1.2
def p12_lend_J46 (a0 : Nat) (x1 : Int32) (x2 : Int32) (b0 : Nat) (M : mMem) : Option (Int32 × mMem) :=
  p12_lend_J51 a0 x1 x2 b0 1 M
def p12_lend (a0 : Nat) (x1 : Int32) (x2 : Int32) (M : mMem) : Option (Int32 × mMem) :=
  gd M a0 12 (
    (p12_noTwo a0 x1 x2 M).bind fun q_1 =>
    if q_1.1 = 0 then
      (p12_of a0 x1 7 q_1.2).bind fun v_2 =>
      if v_2 = 0 then
        p12_lend_J46 a0 x1 x2 a0 q_1.2
      else
        (p12_of a0 x2 7 q_1.2).bind fun v_3 =>
        if v_3 = 9 then
          p12_lend_J46 a0 x1 x2 a0 q_1.2
        else
          (p12_of a0 x1 ((9 : Int32) + x2) q_1.2).bind fun v_4 =>
          if v_4 = 9 then
            p12_lend_J46 a0 x1 x2 a0 q_1.2
          else
            p12_lend_J51 a0 x1 x2 a0 0 q_1.2
    else
      p12_lend_J58 q_1.2)
abbrev rm12_use : Room := { frames := 3, cells := 0, slots := 0, locals := 67 }
def p12_use_J41 (M : mMem) : Option (Int32 × mMem) :=
  some (0, M)
def p12_use_J34 (a0 : Nat) (x1 : Int32) (b0 : Nat) (u1 : Int32) (M : mMem) : Option (Int32 × mMem) :=
  (p12_throwsIf b0 u1 2 M).bind fun q_1 =>
  if q_1.1 = 0 then
    (p12_remembers a0 q_1.2).bind fun q_2 =>
    (getR q_2 a0 12 1).bind fun v_3 =>
    (p12_at x1 7 q_2).bind fun v_4 =>
    (aldI q_2 v_3 20 v_4).bind fun v_5 =>
    (astI q_2 v_3 v_4 (v_5 - 1)).bind fun M_6 =>
    (getR M_6 a0 12 1).bind fun v_7 =>
    (aldI M_6 v_7 20 6).bind fun v_8 =>
    (getR M_6 a0 12 1).bind fun v_9 =>
    (aldI M_6 v_9 20 4).bind fun v_10 =>
    (remI v_8 v_10).bind fun v_11 =>
    (p12_grows a0 x1 v_11 1 M_6).bind fun q_12 =>
    (p12_tells a0 x1 x1 1 q_12).bind fun q_13 =>
    (p12_of a0 x1 0 q_13).bind fun v_14 =>
    some (v_14, q_13)
  else
    p12_use_J41 q_1.2
def p12_use (a0 : Nat) (x1 : Int32) (M : mMem) : Option (Int32 × mMem) :=
  gd M a0 12 (
    (putI M a0 12 0 0).bind fun M_1 =>
    (p12_nobody a0 x1 M_1).bind fun v_2 =>
    (p12_throwsIf a0 v_2 1 M_1).bind fun q_3 =>
    if q_3.1 = 0 then
      (p12_of a0 x1 7 q_3.2).bind fun v_4 =>
      if v_4 = 0 then
        p12_use_J34 a0 x1 a0 1 q_3.2
      else
        p12_use_J34 a0 x1 a0 0 q_3.2
    else
      p12_use_J41 q_3.2)
abbrev rm12_govern : Room := { frames := 3, cells := 0, slots := 0, locals := 65 }
def p12_govern_J75 (u0 : Int32) (M : mMem) : Option (Int32 × mMem) :=
  (bZ u0).bind fun z => some (z, M)
def p12_govern_J63 (x3 : Int32) (x4 : Int32) (b0 : Nat) (u1 : Int32) (u2 : Int32) (M : mMem) : Option (Int32 × mMem) :=
  (astI M b0 u1 u2).bind fun M_1 =>
  if x4 = x3 then
    p12_govern_J75 0 M_1
  else
    p12_govern_J75 1 M_1
def p12_govern (a0 : Nat) (x1 : Int32) (x2 : Int32) (x3 : Int32) (M : mMem) : Option (Int32 × mMem) :=
  gd M a0 12 (
    (p12_noTwo a0 x1 x2 M).bind fun q_1 =>
    if q_1.1 = 0 then
      (p12_remembers a0 q_1.2).bind fun q_2 =>
      (p12_governs a0 x1 x2 q_2).bind fun v_3 =>
      (p12_of a0 x2 8 q_2).bind fun v_4 =>
      (getR q_2 a0 12 1).bind fun v_5 =>
      (p12_at x2 8 q_2).bind fun v_6 =>
      if x3 = 0 then
        p12_govern_J63 x3 v_3 v_5 v_6 (v_4 &&& (((1 : Int32) <<< (x1 &&& 31)) ^^^ (-1))) q_2
      else
        p12_govern_J63 x3 v_3 v_5 v_6 ((v_4 &&& (((1 : Int32) <<< (x1 &&& 31)) ^^^ (-1))) ||| ((1 : Int32) <<< (x1 &&& 31))) q_2
    else
      some (0, q_1.2))
abbrev rm12_stern : Room := { frames := 2, cells := 0, slots := 0, locals := 43 }
def p12_stern_J41 (M : mMem) : Option (Int32 × mMem) :=
  some (0, M)
def p12_stern_J34 (a0 : Nat) (x1 : Int32) (x2 : Int32) (b0 : Nat) (u1 : Int32) (M : mMem) : Option (Int32 × mMem) :=
  (p12_throwsIf b0 u1 2 M).bind fun q_1 =>
  if q_1.1 = 0 then
    (p12_remembers a0 q_1.2).bind fun q_2 =>
    (p12_of a0 x1 6 q_2).bind fun v_3 =>
    (getR q_2 a0 12 1).bind fun v_4 =>
    (p12_at x1 6 q_2).bind fun v_5 =>
    (astI q_2 v_4 v_5 x2).bind fun M_6 =>
    some (v_3, M_6)
  else
    p12_stern_J41 q_1.2
def p12_stern (a0 : Nat) (x1 : Int32) (x2 : Int32) (M : mMem) : Option (Int32 × mMem) :=
  gd M a0 12 (
    (putI M a0 12 0 0).bind fun M_1 =>
    (p12_nobody a0 x1 M_1).bind fun v_2 =>
    (p12_throwsIf a0 v_2 1 M_1).bind fun q_3 =>
    if q_3.1 = 0 then
      (p12_in x2 0 100 q_3.2).bind fun v_4 =>
      if v_4 = 0 then
        p12_stern_J34 a0 x1 x2 a0 1 q_3.2
      else
        p12_stern_J34 a0 x1 x2 a0 0 q_3.2
    else
      p12_stern_J41 q_3.2)
abbrev rm12_oneOf : Room := { frames := 1, cells := 0, slots := 0, locals := 21 }
def p12_oneOf_J30 (M : mMem) (rec4 : Int32 → Int32 → Int32 → Option Int32) (x0 : Int32) (x3 : Int32) (u0 : Int32) (u1 : Int32) : Option Int32 :=
  rec4 x0 (u0 - u1) (x3 + 1)
def p12_oneOf_J16 (M : mMem) (rec4 : Int32 → Int32 → Int32 → Option Int32) (x0 : Int32) (x2 : Int32) (x3 : Int32) : Option Int32 :=
  (p12_has x0 x3 M).bind fun v_1 =>
  if v_1 = 0 then
    p12_oneOf_J30 M rec4 x0 x3 x2 0
  else
    p12_oneOf_J30 M rec4 x0 x3 x2 1
def p12_oneOf_L4 (M : mMem) : Nat → Int32 → Int32 → Int32 → Option Int32
  | 0, _, _, _ => none
  | n + 1, x0, x2, x3 =>
    (p12_has x0 x3 M).bind fun v_1 =>
    if v_1 = 0 then
      p12_oneOf_J16 M (p12_oneOf_L4 M n) x0 x2 x3
    else
      if 0 < x2 then
        p12_oneOf_J16 M (p12_oneOf_L4 M n) x0 x2 x3
      else
        some x3
def p12_oneOf (x0 : Int32) (x1 : Int32) (M : mMem) : Option Int32 :=
  p12_oneOf_L4 M gF x0 x1 0
abbrev rm12_dayEnds : Room := { frames := 1, cells := 0, slots := 0, locals := 32 }
def p12_dayEnds (a0 : Nat) (M : mMem) : Option mMem :=
  gd M a0 12 (
    (getR M a0 12 1).bind fun v_1 =>
    (getR M a0 12 1).bind fun v_2 =>
    (aldI M v_2 20 3).bind fun v_3 =>
    (astI M v_1 3 (minI 9999 (v_3 + 1))).bind fun M_4 =>
    some M_4)
abbrev rm12_oneDay : Room := { frames := 9, cells := 0, slots := 0, locals := 213 }
def p12_oneDay_J110 (rec4 : Nat → Int32 → Int32 → mMem → Option (Int32 × mMem)) (a0 : Nat) (x1 : Int32) (x2 : Int32) (M : mMem) : Option (Int32 × mMem) :=
  rec4 a0 x1 (x2 + 1) M
def p12_oneDay_J108 (rec4 : Nat → Int32 → Int32 → mMem → Option (Int32 × mMem)) (a0 : Nat) (x2 : Int32) (u0 : Int32) (u1 : Int32) (M : mMem) : Option (Int32 × mMem) :=
  p12_oneDay_J110 rec4 a0 (u0 + u1) x2 M
def p12_oneDay_J94 (rec4 : Nat → Int32 → Int32 → mMem → Option (Int32 × mMem)) (a0 : Nat) (x1 : Int32) (x2 : Int32) (x5 : Int32) (b0 : Nat) (u1 : Int32) (u2 : Int32) (u3 : Int32) (M : mMem) : Option (Int32 × mMem) :=
  (p12_says b0 u1 u2 u3 M).bind fun q_1 =>
  if x5 = 0 then
    p12_oneDay_J108 rec4 a0 x2 x1 0 q_1
  else
    p12_oneDay_J108 rec4 a0 x2 x1 1 q_1
def p12_oneDay_J78 (rec4 : Nat → Int32 → Int32 → mMem → Option (Int32 × mMem)) (a0 : Nat) (x1 : Int32) (x2 : Int32) (x4 : Int32) (u0 : Int32) (M : mMem) : Option (Int32 × mMem) :=
  if u0 = 0 then
    p12_oneDay_J94 rec4 a0 x1 x2 u0 a0 x4 x2 1 M
  else
    p12_oneDay_J94 rec4 a0 x1 x2 u0 a0 x4 x2 0 M
def p12_oneDay_L4 : Nat → Nat → Int32 → Int32 → mMem → Option (Int32 × mMem)
  | 0, _, _, _, _ => none
  | n + 1, a0, x1, x2, M =>
    (p12_people a0 M).bind fun v_1 =>
    if x2 < v_1 then
      (p12_of a0 x2 8 M).bind fun v_3 =>
      if v_3 = 0 then
        p12_oneDay_J110 (p12_oneDay_L4 n) a0 x1 x2 M
      else
        (p12_drawn a0 100 M).bind fun q_4 =>
        (p12_of a0 x2 5 q_4.2).bind fun v_5 =>
        if q_4.1 < v_5 then
          (pJ6_bitCount v_3 q_4.2).bind fun v_6 =>
          (p12_drawn a0 v_6 q_4.2).bind fun q_7 =>
          (p12_oneOf v_3 q_7.1 q_7.2).bind fun v_8 =>
          (p12_drawn a0 100 q_7.2).bind fun q_9 =>
          (p12_of a0 v_8 6 q_9.2).bind fun v_10 =>
          if q_9.1 < v_10 then
            p12_oneDay_J78 (p12_oneDay_L4 n) a0 x1 x2 v_8 1 q_9.2
          else
            p12_oneDay_J78 (p12_oneDay_L4 n) a0 x1 x2 v_8 0 q_9.2
        else
          p12_oneDay_J110 (p12_oneDay_L4 n) a0 x1 x2 q_4.2
    else
      (p12_dayEnds a0 M).bind fun q_2 =>
      some (x1, q_2)
def p12_oneDay (a0 : Nat) (M : mMem) : Option (Int32 × mMem) :=
  gd M a0 12 (
    p12_oneDay_L4 gF a0 0 0 M)
abbrev rm12_goesOn : Room := { frames := 10, cells := 0, slots := 0, locals := 238 }
def p12_goesOn_L4 : Nat → Nat → Int32 → Int32 → Int32 → mMem → Option (Int32 × mMem)
  | 0, _, _, _, _, _ => none
  | n + 1, a0, x1, x2, x3, M =>
    if x3 < x1 then
      (p12_oneDay a0 M).bind fun q_1 =>
      (p12_goesOn_L4 n) a0 x1 (x2 + q_1.1) (x3 + 1) q_1.2
    else
      some (x2, M)
def p12_goesOn (a0 : Nat) (x1 : Int32) (M : mMem) : Option (Int32 × mMem) :=
  gd M a0 12 (
    p12_goesOn_L4 gF a0 x1 0 0 M)
abbrev rm12_dayOf : Room := { frames := 8, cells := 0, slots := 0, locals := 190 }
def p12_dayOf_J37 (rec2 : Nat → Int32 → Int32 → mMem → Option mMem) (a0 : Nat) (x1 : Int32) (x2 : Int32) (M : mMem) : Option mMem :=
  rec2 a0 x1 (x2 + 1) M
def p12_dayOf_L2 : Nat → Nat → Int32 → Int32 → mMem → Option mMem
  | 0, _, _, _, _ => none
  | n + 1, a0, x1, x2, M =>
    (p12_people a0 M).bind fun v_1 =>
    if x2 < v_1 then
      (p12_of a0 x2 8 M).bind fun v_3 =>
      if v_3 = 0 then
        p12_dayOf_J37 (p12_dayOf_L2 n) a0 x1 x2 M
      else
        (p12_of a0 x2 8 M).bind fun v_4 =>
        (p12_oneOf v_4 0 M).bind fun v_5 =>
        (p12_hears a0 v_5 x2 x1 M).bind fun q_6 =>
        p12_dayOf_J37 (p12_dayOf_L2 n) a0 x1 x2 q_6
    else
      (p12_dayEnds a0 M).bind fun q_2 =>
      some q_2
def p12_dayOf (a0 : Nat) (x1 : Int32) (M : mMem) : Option mMem :=
  gd M a0 12 (
    p12_dayOf_L2 gF a0 x1 0 M)
abbrev rm12_days : Room := { frames := 11, cells := 0, slots := 0, locals := 261 }
def p12_days_J21 (a0 : Nat) (x1 : Int32) (b0 : Nat) (u1 : Int32) (M : mMem) : Option (Int32 × mMem) :=
  (p12_throwsIf b0 u1 1 M).bind fun q_1 =>
  if q_1.1 = 0 then
    (p12_remembers a0 q_1.2).bind fun q_2 =>
    (p12_goesOn a0 x1 q_2).bind fun q_3 =>
    some (q_3.1, q_3.2)
  else
    some (0, q_1.2)
def p12_days (a0 : Nat) (x1 : Int32) (M : mMem) : Option (Int32 × mMem) :=
  gd M a0 12 (
    (putI M a0 12 0 0).bind fun M_1 =>
    (p12_in x1 1 100 M_1).bind fun v_2 =>
    if v_2 = 0 then
      p12_days_J21 a0 x1 a0 1 M_1
    else
      p12_days_J21 a0 x1 a0 0 M_1)
abbrev rm12_cribOnes : Room := { frames := 2, cells := 0, slots := 0, locals := 43 }
def p12_cribOnes_J35 (M : mMem) (rec4 : Nat → Int32 → Int32 → Option Int32) (a0 : Nat) (x2 : Int32) (u0 : Int32) (u1 : Int32) : Option Int32 :=
  rec4 a0 (u0 ||| u1) (x2 + 1)
def p12_cribOnes_L4 (M : mMem) : Nat → Nat → Int32 → Int32 → Option Int32
  | 0, _, _, _ => none
  | n + 1, a0, x1, x2 =>
    (p12_people a0 M).bind fun v_1 =>
    if x2 < v_1 then
      (p12_of a0 x2 0 M).bind fun v_2 =>
      (getR M a0 12 1).bind fun v_3 =>
      (aldI M v_3 20 5).bind fun v_4 =>
      if v_2 < v_4 then
        p12_cribOnes_J35 M (p12_cribOnes_L4 M n) a0 x2 x1 ((1 : Int32) <<< (x2 &&& 31))
      else
        p12_cribOnes_J35 M (p12_cribOnes_L4 M n) a0 x2 x1 0
    else
      some x1
def p12_cribOnes (a0 : Nat) (M : mMem) : Option Int32 :=
  gd M a0 12 (
    p12_cribOnes_L4 M gF a0 0 0)
abbrev rm12_cradle : Room := { frames := 9, cells := 0, slots := 0, locals := 212 }
def p12_cradle_J64 (a0 : Nat) (x3 : Int32) (M : mMem) : Option (Int32 × mMem) :=
  (p12_bringsBack a0 M).bind fun q_1 =>
  some (x3, q_1)
def p12_cradle_J53 (rec14 : Nat → Int32 → Int32 → Int32 → Int32 → mMem → Option (Int32 × mMem)) (a0 : Nat) (x1 : Int32) (x2 : Int32) (x3 : Int32) (x4 : Int32) (M : mMem) : Option (Int32 × mMem) :=
  (p12_dayOf a0 x1 M).bind fun q_1 =>
  rec14 a0 x1 x2 x3 (x4 + 1) q_1
def p12_cradle_J52 (rec14 : Nat → Int32 → Int32 → Int32 → Int32 → mMem → Option (Int32 × mMem)) (a0 : Nat) (x1 : Int32) (x2 : Int32) (x4 : Int32) (u0 : Int32) (M : mMem) : Option (Int32 × mMem) :=
  p12_cradle_J53 rec14 a0 x1 x2 u0 x4 M
def p12_cradle_L14 : Nat → Nat → Int32 → Int32 → Int32 → Int32 → mMem → Option (Int32 × mMem)
  | 0, _, _, _, _, _, _ => none
  | n + 1, a0, x1, x2, x3, x4, M =>
    if 100 < x4 then
      p12_cradle_J64 a0 x3 M
    else
      if x3 = (-1) then
        (p12_cribOnes a0 M).bind fun v_1 =>
        if v_1 = 0 then
          p12_cradle_J53 (p12_cradle_L14 n) a0 x1 x2 x3 x4 M
        else
          if x2 = 0 then
            p12_cradle_J52 (p12_cradle_L14 n) a0 x1 x2 x4 x4 M
          else
            (p12_oneOf v_1 0 M).bind fun v_2 =>
            p12_cradle_J52 (p12_cradle_L14 n) a0 x1 x2 x4 v_2 M
      else
        p12_cradle_J64 a0 x3 M
def p12_cradle (a0 : Nat) (x1 : Int32) (x2 : Int32) (M : mMem) : Option (Int32 × mMem) :=
  gd M a0 12 (
    (putI M a0 12 0 0).bind fun M_1 =>
    (p12_keepsAll a0 M_1).bind fun q_2 =>
    p12_cradle_L14 gF a0 x1 x2 (-1) 0 q_2)
abbrev rm12_agesAsKept : Room := { frames := 2, cells := 0, slots := 0, locals := 43 }
def p12_agesAsKept_J40 (M : mMem) (rec4 : Nat → Int32 → Int32 → Option Int32) (a0 : Nat) (x2 : Int32) (u0 : Int32) : Option Int32 :=
  rec4 a0 u0 (x2 + 1)
def p12_agesAsKept_J39 (M : mMem) (rec4 : Nat → Int32 → Int32 → Option Int32) (a0 : Nat) (x2 : Int32) : Option Int32 :=
  p12_agesAsKept_J40 M rec4 a0 x2 0
def p12_agesAsKept_L4 (M : mMem) : Nat → Nat → Int32 → Int32 → Option Int32
  | 0, _, _, _ => none
  | n + 1, a0, x1, x2 =>
    (p12_people a0 M).bind fun v_1 =>
    if x2 < v_1 then
      if x1 = 0 then
        p12_agesAsKept_J39 M (p12_agesAsKept_L4 M n) a0 x2
      else
        (p12_of a0 x2 0 M).bind fun v_2 =>
        (getR M a0 12 4).bind fun v_3 =>
        (p12_at x2 0 M).bind fun v_4 =>
        (aldI M v_3 20 v_4).bind fun v_5 =>
        if v_2 = v_5 then
          p12_agesAsKept_J40 M (p12_agesAsKept_L4 M n) a0 x2 1
        else
          p12_agesAsKept_J39 M (p12_agesAsKept_L4 M n) a0 x2
    else
      (bZ x1).bind fun z => some z
def p12_agesAsKept (a0 : Nat) (M : mMem) : Option Int32 :=
  gd M a0 12 (
    p12_agesAsKept_L4 M gF a0 1 0)
abbrev rm12_again : Room := { frames := 9, cells := 0, slots := 0, locals := 212 }
def p12_again_J48 (a0 : Nat) (x2 : Int32) (M : mMem) : Option (Int32 × mMem) :=
  (p12_bringsBack a0 M).bind fun q_1 =>
  some (x2, q_1)
def p12_again_J41 (rec13 : Nat → Int32 → Int32 → Int32 → mMem → Option (Int32 × mMem)) (a0 : Nat) (x1 : Int32) (x3 : Int32) (u0 : Int32) (M : mMem) : Option (Int32 × mMem) :=
  rec13 a0 x1 u0 (x3 + 1) M
def p12_again_L13 : Nat → Nat → Int32 → Int32 → Int32 → mMem → Option (Int32 × mMem)
  | 0, _, _, _, _, _ => none
  | n + 1, a0, x1, x2, x3, M =>
    if 100 < x3 then
      p12_again_J48 a0 x2 M
    else
      if x2 = (-1) then
        (p12_dayOf a0 x1 M).bind fun q_1 =>
        (p12_agesAsKept a0 q_1).bind fun v_2 =>
        if v_2 = 0 then
          p12_again_J41 (p12_again_L13 n) a0 x1 x3 (-1) q_1
        else
          p12_again_J41 (p12_again_L13 n) a0 x1 x3 x3 q_1
      else
        p12_again_J48 a0 x2 M
def p12_again (a0 : Nat) (x1 : Int32) (M : mMem) : Option (Int32 × mMem) :=
  gd M a0 12 (
    (putI M a0 12 0 0).bind fun M_1 =>
    (p12_keepsAll a0 M_1).bind fun q_2 =>
    p12_again_L13 gF a0 x1 (-1) 1 q_2)
abbrev rm12_over : Room := { frames := 9, cells := 0, slots := 0, locals := 212 }
def p12_over_J75 (a0 : Nat) (x2 : Int32) (M : mMem) : Option (Int32 × mMem) :=
  (p12_bringsBack a0 M).bind fun q_1 =>
  some (x2, q_1)
def p12_over_J63 (rec28 : Nat → Int32 → Int32 → Int32 → mMem → Option (Int32 × mMem)) (a0 : Nat) (x1 : Int32) (x3 : Int32) (u0 : Int32) (M : mMem) : Option (Int32 × mMem) :=
  (p12_dayOf a0 0 M).bind fun q_1 =>
  rec28 a0 x1 u0 (x3 + 1) q_1
def p12_over_L28 : Nat → Nat → Int32 → Int32 → Int32 → mMem → Option (Int32 × mMem)
  | 0, _, _, _, _, _ => none
  | n + 1, a0, x1, x2, x3, M =>
    if 100 < x3 then
      p12_over_J75 a0 x2 M
    else
      if x2 = (-1) then
        (p12_of a0 x1 1 M).bind fun v_1 =>
        (getR M a0 12 4).bind fun v_2 =>
        (p12_at x1 1 M).bind fun v_3 =>
        (aldI M v_2 20 v_3).bind fun v_4 =>
        if v_4 < v_1 then
          p12_over_J63 (p12_over_L28 n) a0 x1 x3 x3 M
        else
          p12_over_J63 (p12_over_L28 n) a0 x1 x3 (-1) M
      else
        p12_over_J75 a0 x2 M
def p12_over (a0 : Nat) (x1 : Int32) (M : mMem) : Option (Int32 × mMem) :=
  gd M a0 12 (
    (putI M a0 12 0 0).bind fun M_1 =>
    (p12_nobody a0 x1 M_1).bind fun v_2 =>
    (p12_throwsIf a0 v_2 1 M_1).bind fun q_3 =>
    if q_3.1 = 0 then
      (p12_keepsAll a0 q_3.2).bind fun q_4 =>
      p12_over_L28 gF a0 x1 (-1) 0 q_4
    else
      some (0, q_3.2))
abbrev rm12_ahead : Room := { frames := 9, cells := 0, slots := 0, locals := 212 }
def p12_ahead_J41 (M : mMem) : Option (Int32 × mMem) :=
  some (0, M)
def p12_ahead_L50 : Nat → Nat → Int32 → Int32 → Int32 → Int32 → mMem → Option (Int32 × mMem)
  | 0, _, _, _, _, _, _ => none
  | n + 1, a0, x1, x2, x3, x4, M =>
    if x4 < x2 then
      (p12_dayOf a0 x3 M).bind fun q_3 =>
      (p12_ahead_L50 n) a0 x1 x2 x3 (x4 + 1) q_3
    else
      (p12_of a0 x1 0 M).bind fun v_1 =>
      (p12_bringsBack a0 M).bind fun q_2 =>
      some (v_1, q_2)
def p12_ahead_J34 (a0 : Nat) (x1 : Int32) (x2 : Int32) (x3 : Int32) (b0 : Nat) (u1 : Int32) (M : mMem) : Option (Int32 × mMem) :=
  (p12_throwsIf b0 u1 2 M).bind fun q_1 =>
  if q_1.1 = 0 then
    (p12_keepsAll a0 q_1.2).bind fun q_2 =>
    p12_ahead_L50 gF a0 x1 x2 x3 0 q_2
  else
    p12_ahead_J41 q_1.2
def p12_ahead (a0 : Nat) (x1 : Int32) (x2 : Int32) (x3 : Int32) (M : mMem) : Option (Int32 × mMem) :=
  gd M a0 12 (
    (putI M a0 12 0 0).bind fun M_1 =>
    (p12_nobody a0 x1 M_1).bind fun v_2 =>
    (p12_throwsIf a0 v_2 1 M_1).bind fun q_3 =>
    if q_3.1 = 0 then
      (p12_in x2 0 100 q_3.2).bind fun v_4 =>
      if v_4 = 0 then
        p12_ahead_J34 a0 x1 x2 x3 a0 1 q_3.2
      else
        p12_ahead_J34 a0 x1 x2 x3 a0 0 q_3.2
    else
      p12_ahead_J41 q_3.2)
abbrev rm12_mild : Room := { frames := 9, cells := 0, slots := 0, locals := 212 }
def p12_mild_J119 (x2 : Int32) (M : mMem) : Option (Int32 × mMem) :=
  some (x2, M)
def p12_mild_J90 (rec62 : Nat → Int32 → Int32 → Int32 → Int32 → mMem → Option (Int32 × mMem)) (a0 : Nat) (x1 : Int32) (x3 : Int32) (x5 : Int32) (u0 : Int32) (M : mMem) : Option (Int32 × mMem) :=
  rec62 a0 x1 x3 u0 (x5 + 1) M
def p12_mild_L62 (k98 : Nat → Int32 → Int32 → Int32 → mMem → Option (Int32 × mMem)) : Nat → Nat → Int32 → Int32 → Int32 → Int32 → mMem → Option (Int32 × mMem)
  | 0, _, _, _, _, _, _ => none
  | n + 1, a0, x1, x3, x4, x5, M =>
    if x5 < x1 then
      if x4 = 0 then
        k98 a0 x1 x3 x4 M
      else
        (p12_dayOf a0 0 M).bind fun q_1 =>
        (p12_cribOnes a0 q_1).bind fun v_2 =>
        if v_2 = 0 then
          p12_mild_J90 (p12_mild_L62 k98 n) a0 x1 x3 x5 1 q_1
        else
          p12_mild_J90 (p12_mild_L62 k98 n) a0 x1 x3 x5 0 q_1
    else
      k98 a0 x1 x3 x4 M
def p12_mild_J112 (rec39 : Nat → Int32 → Int32 → Int32 → mMem → Option (Int32 × mMem)) (a0 : Nat) (x1 : Int32) (x3 : Int32) (u0 : Int32) (M : mMem) : Option (Int32 × mMem) :=
  rec39 a0 x1 u0 (x3 + (-1)) M
def p12_mild_J98 (rec39 : Nat → Int32 → Int32 → Int32 → mMem → Option (Int32 × mMem)) (a0 : Nat) (x1 : Int32) (x3 : Int32) (x4 : Int32) (M : mMem) : Option (Int32 × mMem) :=
  (p12_bringsBack a0 M).bind fun q_1 =>
  if x4 = 0 then
    p12_mild_J112 rec39 a0 x1 x3 (-1) q_1
  else
    p12_mild_J112 rec39 a0 x1 x3 x3 q_1
def p12_mild_L39 : Nat → Nat → Int32 → Int32 → Int32 → mMem → Option (Int32 × mMem)
  | 0, _, _, _, _, _ => none
  | n + 1, a0, x1, x2, x3, M =>
    if x3 < 0 then
      p12_mild_J119 x2 M
    else
      if x2 = (-1) then
        (getR M a0 12 1).bind fun v_1 =>
        (astI M v_1 6 x3).bind fun M_2 =>
        p12_mild_L62 (p12_mild_J98 (p12_mild_L39 n)) gF a0 x1 x3 1 0 M_2
      else
        p12_mild_J119 x2 M
def p12_mild_J21 (a0 : Nat) (x1 : Int32) (b0 : Nat) (u1 : Int32) (M : mMem) : Option (Int32 × mMem) :=
  (p12_throwsIf b0 u1 1 M).bind fun q_1 =>
  if q_1.1 = 0 then
    (p12_keepsAll a0 q_1.2).bind fun q_2 =>
    p12_mild_L39 gF a0 x1 (-1) 20 q_2
  else
    some (0, q_1.2)
def p12_mild (a0 : Nat) (x1 : Int32) (M : mMem) : Option (Int32 × mMem) :=
  gd M a0 12 (
    (putI M a0 12 0 0).bind fun M_1 =>
    (p12_in x1 0 60 M_1).bind fun v_2 =>
    if v_2 = 0 then
      p12_mild_J21 a0 x1 a0 1 M_1
    else
      p12_mild_J21 a0 x1 a0 0 M_1)
abbrev rm12_finds : Room := { frames := 1, cells := 0, slots := 0, locals := 32 }
def p12_finds_J73 (M : mMem) : Option mMem :=
  some M
def p12_finds (a0 : Nat) (x1 : Int32) (x2 : Int32) (x3 : Int32) (M : mMem) : Option mMem :=
  gd M a0 12 (
    (getR M a0 12 18).bind fun v_1 =>
    (aldI M v_1 20 x1).bind fun v_2 =>
    if v_2 = (-1) then
      (getR M a0 12 18).bind fun v_9 =>
      (astI M v_9 x1 x2).bind fun M_10 =>
      (getR M_10 a0 12 19).bind fun v_11 =>
      (astI M_10 v_11 x1 x3).bind fun M_12 =>
      (getR M_12 a0 12 20).bind fun v_13 =>
      (getI M_12 a0 12 21).bind fun v_14 =>
      (astI M_12 v_13 v_14 x1).bind fun M_15 =>
      (getI M_15 a0 12 21).bind fun v_16 =>
      (putI M_15 a0 12 21 (v_16 + 1)).bind fun M_17 =>
      p12_finds_J73 M_17
    else
      (getR M a0 12 18).bind fun v_3 =>
      (aldI M v_3 20 x1).bind fun v_4 =>
      if v_4 = x2 then
        (getR M a0 12 19).bind fun v_5 =>
        (getR M a0 12 19).bind fun v_6 =>
        (aldI M v_6 20 x1).bind fun v_7 =>
        (astI M v_5 x1 (minI v_7 x3)).bind fun M_8 =>
        p12_finds_J73 M_8
      else
        p12_finds_J73 M)
abbrev rm12_fromAge : Room := { frames := 8, cells := 0, slots := 0, locals := 190 }
def p12_fromAge_J44 (a0 : Nat) (x1 : Int32) (x4 : Int32) (x5 : Int32) (b0 : Nat) (u1 : Int32) (u2 : Int32) (u3 : Int32) (M : mMem) : Option (Int32 × mMem) :=
  (p12_hears b0 u1 u2 u3 M).bind fun q_1 =>
  (p12_of a0 x1 0 q_1).bind fun v_2 =>
  (getR q_1 a0 12 1).bind fun v_3 =>
  (p12_at x1 0 q_1).bind fun v_4 =>
  (astI q_1 v_3 v_4 x4).bind fun M_5 =>
  (getR M_5 a0 12 1).bind fun v_6 =>
  (p12_at x1 1 M_5).bind fun v_7 =>
  (astI M_5 v_6 v_7 x5).bind fun M_8 =>
  some (v_2, M_8)
def p12_fromAge (a0 : Nat) (x1 : Int32) (x2 : Int32) (x3 : Int32) (M : mMem) : Option (Int32 × mMem) :=
  gd M a0 12 (
    (p12_of a0 x1 0 M).bind fun v_1 =>
    (p12_of a0 x1 1 M).bind fun v_2 =>
    (getR M a0 12 1).bind fun v_3 =>
    (p12_at x1 0 M).bind fun v_4 =>
    (astI M v_3 v_4 x2).bind fun M_5 =>
    (divI x3 2).bind fun v_6 =>
    (remI x3 2).bind fun v_7 =>
    if v_7 = 1 then
      p12_fromAge_J44 a0 x1 v_1 v_2 a0 v_6 x1 1 M_5
    else
      p12_fromAge_J44 a0 x1 v_1 v_2 a0 v_6 x1 0 M_5)
abbrev rm12_looksRound : Room := { frames := 9, cells := 0, slots := 0, locals := 216 }
def p12_looksRound_L2 (k21 : Nat → Int32 → Int32 → mMem → Option mMem) : Nat → Nat → Int32 → Int32 → Int32 → mMem → Option mMem
  | 0, _, _, _, _, _ => none
  | n + 1, a0, x1, x2, x3, M =>
    if x3 < 99 then
      (getR M a0 12 18).bind fun v_1 =>
      (astI M v_1 x3 (-1)).bind fun M_2 =>
      (p12_looksRound_L2 k21 n) a0 x1 x2 (x3 + 1) M_2
    else
      k21 a0 x1 x2 M
def p12_looksRound_J156 (M : mMem) : Option mMem :=
  some M
def p12_looksRound_J144 (rec74 : Nat → Int32 → Int32 → Int32 → Int32 → Int32 → mMem → Option mMem) (a0 : Nat) (x1 : Int32) (x2 : Int32) (x3 : Int32) (x4 : Int32) (x5 : Int32) (M : mMem) : Option mMem :=
  rec74 a0 x1 x2 x3 x4 (x5 + 1) M
def p12_looksRound_J141 (rec74 : Nat → Int32 → Int32 → Int32 → Int32 → Int32 → mMem → Option mMem) (a0 : Nat) (x1 : Int32) (x2 : Int32) (x3 : Int32) (x4 : Int32) (x5 : Int32) (b0 : Nat) (u1 : Int32) (u2 : Int32) (u3 : Int32) (M : mMem) : Option mMem :=
  (p12_finds b0 u1 u2 u3 M).bind fun q_1 =>
  p12_looksRound_J144 rec74 a0 x1 x2 x3 x4 x5 q_1
def p12_looksRound_L74 (k150 : Nat → Int32 → Int32 → Int32 → mMem → Option mMem) : Nat → Nat → Int32 → Int32 → Int32 → Int32 → Int32 → mMem → Option mMem
  | 0, _, _, _, _, _, _, _ => none
  | n + 1, a0, x1, x2, x3, x4, x5, M =>
    (p12_people a0 M).bind fun v_1 =>
    if x5 < ((2 : Int32) * v_1) then
      (divI x5 2).bind fun v_2 =>
      (p12_governs a0 v_2 x1 M).bind fun v_3 =>
      if v_3 = 0 then
        p12_looksRound_J144 (p12_looksRound_L74 k150 n) a0 x1 x2 x3 x4 x5 M
      else
        (p12_fromAge a0 x1 x4 x5 M).bind fun q_4 =>
        (getR q_4.2 a0 12 18).bind fun v_5 =>
        (aldI q_4.2 v_5 20 x4).bind fun v_6 =>
        (getR q_4.2 a0 12 18).bind fun v_7 =>
        (aldI q_4.2 v_7 20 x4).bind fun v_8 =>
        if v_8 = 0 then
          p12_looksRound_J141 (p12_looksRound_L74 k150 n) a0 x1 x2 x3 x4 x5 a0 q_4.1 (v_6 + 1) x5 q_4.2
        else
          (getR q_4.2 a0 12 19).bind fun v_9 =>
          (aldI q_4.2 v_9 20 x4).bind fun v_10 =>
          p12_looksRound_J141 (p12_looksRound_L74 k150 n) a0 x1 x2 x3 x4 x5 a0 q_4.1 (v_6 + 1) v_10 q_4.2
    else
      k150 a0 x1 x2 x3 M
def p12_looksRound_J150 (rec40 : Nat → Int32 → Int32 → Int32 → mMem → Option mMem) (a0 : Nat) (x1 : Int32) (x2 : Int32) (x3 : Int32) (M : mMem) : Option mMem :=
  rec40 a0 x1 x2 (x3 + 1) M
def p12_looksRound_L40 : Nat → Nat → Int32 → Int32 → Int32 → mMem → Option mMem
  | 0, _, _, _, _, _ => none
  | n + 1, a0, x1, x2, x3, M =>
    (getI M a0 12 21).bind fun v_1 =>
    if x3 < v_1 then
      (getR M a0 12 18).bind fun v_2 =>
      (getR M a0 12 20).bind fun v_3 =>
      (aldI M v_3 20 x3).bind fun v_4 =>
      (aldI M v_2 20 v_4).bind fun v_5 =>
      if v_5 < x2 then
        (getR M a0 12 20).bind fun v_6 =>
        (aldI M v_6 20 x3).bind fun v_7 =>
        p12_looksRound_L74 (p12_looksRound_J150 (p12_looksRound_L40 n)) gF a0 x1 x2 x3 v_7 0 M
      else
        p12_looksRound_J156 M
    else
      p12_looksRound_J156 M
def p12_looksRound_J21 (a0 : Nat) (x1 : Int32) (x2 : Int32) (M : mMem) : Option mMem :=
  (putI M a0 12 21 0).bind fun M_1 =>
  (p12_of a0 x1 0 M_1).bind fun v_2 =>
  (p12_finds a0 v_2 0 (-1) M_1).bind fun q_3 =>
  p12_looksRound_L40 gF a0 x1 x2 0 q_3
def p12_looksRound (a0 : Nat) (x1 : Int32) (x2 : Int32) (M : mMem) : Option mMem :=
  gd M a0 12 (
    p12_looksRound_L2 p12_looksRound_J21 gF a0 x1 x2 0 M)
abbrev rm12_noAge : Room := { frames := 1, cells := 0, slots := 0, locals := 22 }
def p12_noAge_J21 (M : mMem) (u0 : Int32) : Option Int32 :=
  (bZ u0).bind fun z => some z
def p12_noAge (a0 : Nat) (x1 : Int32) (M : mMem) : Option Int32 :=
  gd M a0 12 (
    (getR M a0 12 1).bind fun v_1 =>
    (aldI M v_1 20 4).bind fun v_2 =>
    (p12_in x1 0 (v_2 - 1) M).bind fun v_3 =>
    if v_3 = 0 then
      p12_noAge_J21 M 1
    else
      p12_noAge_J21 M 0)
