abbrev rm0_fits : Room := { frames := 4, cells := 0, slots := 0, locals := 107 }
def p0_fits_J48 (M : mMem) : Option (Int32 × mMem) :=
  some (1, M)
def p0_fits_L3 : Nat → Nat → Int32 → Int32 → Nat → Int32 → Int32 → mMem → Option (Int32 × mMem)
  | 0, _, _, _, _, _, _, _ => none
  | n + 1, a0, x1, x2, a3, x4, x5, M =>
    if (x5 + 1) < x4 then
      (lenA M a3).bind fun v_1 =>
      if (x5 + 1) < v_1 then
        (aldI M a3 20 x5).bind fun v_2 =>
        (p0_ageBehind a0 x1 v_2 x2 M).bind fun q_3 =>
        (aldI q_3.2 a3 20 (x5 + 1)).bind fun v_4 =>
        if q_3.1 = v_4 then
          (p0_fits_L3 n) a0 x1 x2 a3 x4 (x5 + 2) q_3.2
        else
          some (0, q_3.2)
      else
        p0_fits_J48 M
    else
      p0_fits_J48 M
def p0_fits (a0 : Nat) (x1 : Int32) (x2 : Int32) (a3 : Nat) (x4 : Int32) (M : mMem) : Option (Int32 × mMem) :=
  gd M a0 1 (
    p0_fits_L3 gF a0 x1 x2 a3 x4 0 M)
abbrev rm0_fitting : Room := { frames := 5, cells := 0, slots := 0, locals := 132 }
def p0_fitting_J55 (rec17 : Nat → Int32 → Nat → Int32 → Int32 → Int32 → mMem → Option (Int32 × mMem)) (a0 : Nat) (x1 : Int32) (a2 : Nat) (x3 : Int32) (x4 : Int32) (x5 : Int32) (M : mMem) : Option (Int32 × mMem) :=
  rec17 a0 x1 a2 x3 x4 (x5 + 1) M
def p0_fitting_L17 : Nat → Nat → Int32 → Nat → Int32 → Int32 → Int32 → mMem → Option (Int32 × mMem)
  | 0, _, _, _, _, _, _, _ => none
  | n + 1, a0, x1, a2, x3, x4, x5, M =>
    if x5 < 16 then
      (p0_canBeSaid a0 x5 x1 M).bind fun v_1 =>
      if v_1 = 0 then
        p0_fitting_J55 (p0_fitting_L17 n) a0 x1 a2 x3 x4 x5 M
      else
        (p0_fits a0 x1 x5 a2 x3 M).bind fun q_2 =>
        if q_2.1 = 0 then
          p0_fitting_J55 (p0_fitting_L17 n) a0 x1 a2 x3 x4 x5 q_2.2
        else
          p0_fitting_J55 (p0_fitting_L17 n) a0 x1 a2 x3 (x4 ||| ((1 : Int32) <<< (x5 &&& 31))) x5 q_2.2
    else
      some (x4, M)
def p0_fitting (a0 : Nat) (x1 : Int32) (a2 : Nat) (x3 : Int32) (M : mMem) : Option (Int32 × mMem) :=
  gd M a0 1 (
    (getR M a0 1 2).bind fun v_1 =>
    (getR M a0 1 0).bind fun v_2 =>
    (p2_take v_1 v_2 M).bind fun q_3 =>
    p0_fitting_L17 gF a0 x1 a2 x3 0 0 q_3)
abbrev rmJ6_bitCount : Room := { frames := 0, cells := 0, slots := 0, locals := 0 }
def pJ6_bitCount (x0 : Int32) (M : mMem) : Option Int32 :=
  some ((((((((x0 - ((ushr x0 1) &&& 1431655765)) &&& 858993459) + ((ushr (x0 - ((ushr x0 1) &&& 1431655765)) 2) &&& 858993459)) + (ushr (((x0 - ((ushr x0 1) &&& 1431655765)) &&& 858993459) + ((ushr (x0 - ((ushr x0 1) &&& 1431655765)) 2) &&& 858993459)) 4)) &&& 252645135) + (ushr (((((x0 - ((ushr x0 1) &&& 1431655765)) &&& 858993459) + ((ushr (x0 - ((ushr x0 1) &&& 1431655765)) 2) &&& 858993459)) + (ushr (((x0 - ((ushr x0 1) &&& 1431655765)) &&& 858993459) + ((ushr (x0 - ((ushr x0 1) &&& 1431655765)) 2) &&& 858993459)) 4)) &&& 252645135) 8)) + (ushr ((((((x0 - ((ushr x0 1) &&& 1431655765)) &&& 858993459) + ((ushr (x0 - ((ushr x0 1) &&& 1431655765)) 2) &&& 858993459)) + (ushr (((x0 - ((ushr x0 1) &&& 1431655765)) &&& 858993459) + ((ushr (x0 - ((ushr x0 1) &&& 1431655765)) 2) &&& 858993459)) 4)) &&& 252645135) + (ushr (((((x0 - ((ushr x0 1) &&& 1431655765)) &&& 858993459) + ((ushr (x0 - ((ushr x0 1) &&& 1431655765)) 2) &&& 858993459)) + (ushr (((x0 - ((ushr x0 1) &&& 1431655765)) &&& 858993459) + ((ushr (x0 - ((ushr x0 1) &&& 1431655765)) 2) &&& 858993459)) 4)) &&& 252645135) 8)) 16)) &&& 63)
abbrev rm0_greatestPart : Room := { frames := 4, cells := 0, slots := 0, locals := 107 }
def p0_greatestPart_J74 (rec14 : Nat → Int32 → Int32 → Int32 → Int32 → Int32 → mMem → Option (Int32 × mMem)) (a0 : Nat) (x1 : Int32) (x2 : Int32) (x3 : Int32) (x4 : Int32) (x5 : Int32) (M : mMem) : Option (Int32 × mMem) :=
  rec14 a0 x1 x2 x3 x4 (x5 + 1) M
def p0_greatestPart_L14 : Nat → Nat → Int32 → Int32 → Int32 → Int32 → Int32 → mMem → Option (Int32 × mMem)
  | 0, _, _, _, _, _, _, _ => none
  | n + 1, a0, x1, x2, x3, x4, x5, M =>
    if x5 < 16 then
      if ((x3 >>> (x5 &&& 31)) &&& 1) = 1 then
        (p0_ageBehind a0 x1 x2 x5 M).bind fun q_1 =>
        (p0_isPlace q_1.1 q_1.2).bind fun v_2 =>
        if v_2 = 0 then
          p0_greatestPart_J74 (p0_greatestPart_L14 n) a0 x1 x2 x3 x4 x5 q_1.2
        else
          (getR q_1.2 a0 1 6).bind fun v_3 =>
          (aldI q_1.2 v_3 20 q_1.1).bind fun v_4 =>
          (astI q_1.2 v_3 q_1.1 (v_4 + 1)).bind fun M_5 =>
          (getR M_5 a0 1 6).bind fun v_6 =>
          (aldI M_5 v_6 20 q_1.1).bind fun v_7 =>
          p0_greatestPart_J74 (p0_greatestPart_L14 n) a0 x1 x2 x3 (maxI x4 v_7) x5 M_5
      else
        p0_greatestPart_J74 (p0_greatestPart_L14 n) a0 x1 x2 x3 x4 x5 M
    else
      some (x4, M)
def p0_greatestPart (a0 : Nat) (x1 : Int32) (x2 : Int32) (x3 : Int32) (M : mMem) : Option (Int32 × mMem) :=
  gd M a0 1 (
    (getR M a0 1 6).bind fun v_1 =>
    (pJ7_fill v_1 0 M).bind fun q_2 =>
    p0_greatestPart_L14 gF a0 x1 x2 x3 0 0 q_2)
abbrev rm0_bestToAsk : Room := { frames := 6, cells := 0, slots := 0, locals := 157 }
def p0_bestToAsk_J68 (rec30 : Nat → Int32 → Int32 → Int32 → Int32 → Int32 → mMem → Option (Int32 × mMem)) (a0 : Nat) (x1 : Int32) (x4 : Int32) (x5 : Int32) (x6 : Int32) (x7 : Int32) (M : mMem) : Option (Int32 × mMem) :=
  rec30 a0 x1 x4 x5 x6 (x7 + 1) M
def p0_bestToAsk_L30 : Nat → Nat → Int32 → Int32 → Int32 → Int32 → Int32 → mMem → Option (Int32 × mMem)
  | 0, _, _, _, _, _, _, _ => none
  | n + 1, a0, x1, x4, x5, x6, x7, M =>
    (getR M a0 1 0).bind fun v_1 =>
    (getI M v_1 3 5).bind fun v_2 =>
    if x7 < v_2 then
      (p0_greatestPart a0 x1 x7 x4 M).bind fun q_3 =>
      if q_3.1 < x6 then
        p0_bestToAsk_J68 (p0_bestToAsk_L30 n) a0 x1 x4 x7 q_3.1 x7 q_3.2
      else
        p0_bestToAsk_J68 (p0_bestToAsk_L30 n) a0 x1 x4 x5 x6 x7 q_3.2
    else
      some (x5, M)
def p0_bestToAsk (a0 : Nat) (x1 : Int32) (a2 : Nat) (x3 : Int32) (M : mMem) : Option (Int32 × mMem) :=
  gd M a0 1 (
    (p0_fitting a0 x1 a2 x3 M).bind fun q_1 =>
    (pJ6_bitCount q_1.1 q_1.2).bind fun v_2 =>
    if v_2 < 2 then
      some ((-1), q_1.2)
    else
      p0_bestToAsk_L30 gF a0 x1 q_1.1 (-1) 17 0 q_1.2)
abbrev rm1_init : Room := { frames := 3, cells := 15, slots := 476, locals := 73 }
def p1_init (a0 : Nat) (a1 : Nat) (a2 : Nat) (M : mMem) : Option mMem :=
  gd M a0 2 (
    (newC M 3 0).bind fun n_1 =>
    (p2_init n_1.1 n_1.2).bind fun q_2 =>
    (putR q_2 a0 2 2 n_1.1).bind fun M_3 =>
    (putR M_3 a0 2 0 a1).bind fun M_4 =>
    (putR M_4 a0 2 1 a2).bind fun M_5 =>
    some M_5)
abbrev rm2_draw : Room := { frames := 0, cells := 0, slots := 0, locals := 0 }
def p2_draw (a0 : Nat) (M : mMem) : Option (Int32 × mMem) :=
  gd M a0 3 (
    (getI M a0 3 9).bind fun v_1 =>
    (putI M a0 3 9 (((1103515245 : Int32) * v_1) + 12345)).bind fun M_2 =>
    (getI M_2 a0 3 9).bind fun v_3 =>
    some (((ushr v_3 16) &&& 32767), M_2))
abbrev rm2_governorAt : Room := { frames := 2, cells := 0, slots := 0, locals := 43 }
def p2_governorAt_J35 (M : mMem) (rec5 : Nat → Int32 → Int32 → Int32 → Int32 → Option Int32) (a0 : Nat) (x1 : Int32) (x2 : Int32) (x3 : Int32) (x4 : Int32) : Option Int32 :=
  rec5 a0 x1 x2 x3 (x4 + 1)
def p2_governorAt_L5 (M : mMem) : Nat → Nat → Int32 → Int32 → Int32 → Int32 → Option Int32
  | 0, _, _, _, _, _ => none
  | n + 1, a0, x1, x2, x3, x4 =>
    (getI M a0 3 4).bind fun v_1 =>
    if x4 < v_1 then
      (p2_governs a0 x4 x1 M).bind fun v_2 =>
      if v_2 = 0 then
        p2_governorAt_J35 M (p2_governorAt_L5 M n) a0 x1 x2 x3 x4
      else
        if x3 = x2 then
          some x4
        else
          p2_governorAt_J35 M (p2_governorAt_L5 M n) a0 x1 x2 (x3 + 1) x4
    else
      some (-1)
def p2_governorAt (a0 : Nat) (x1 : Int32) (x2 : Int32) (M : mMem) : Option Int32 :=
  gd M a0 3 (
    p2_governorAt_L5 M gF a0 x1 x2 0 0)
abbrev rm6_add : Room := { frames := 1, cells := 0, slots := 0, locals := 32 }
def p6_add_J25 (M : mMem) : Option mMem :=
  some M
def p6_add_J108 (a0 : Nat) (b0 : Nat) (u1 : Int32) (M : mMem) : Option mMem :=
  (putI M b0 7 1 u1).bind fun M_1 =>
  (getI M_1 a0 7 2).bind fun v_2 =>
  (putI M_1 a0 7 2 (minI 60 (v_2 + 1))).bind fun M_3 =>
  some M_3
def p6_add_J74 (a0 : Nat) (x5 : Int32) (x6 : Int32) (b0 : Nat) (u1 : Int32) (u2 : Int32) (M : mMem) : Option mMem :=
  (astI M b0 u1 u2).bind fun M_1 =>
  (getR M_1 a0 7 0).bind fun v_2 =>
  (astI M_1 v_2 (x6 + 4) x5).bind fun M_3 =>
  (getI M_3 a0 7 1).bind fun v_4 =>
  if (v_4 + 1) < 60 then
    (getI M_3 a0 7 1).bind fun v_5 =>
    p6_add_J108 a0 a0 (v_5 + 1) M_3
  else
    p6_add_J108 a0 a0 0 M_3
def p6_add (a0 : Nat) (x1 : Int32) (x2 : Int32) (x3 : Int32) (x4 : Int32) (x5 : Int32) (M : mMem) : Option mMem :=
  gd M a0 7 (
    (getI M a0 7 1).bind fun v_1 =>
    if (v_1 * 5) < 0 then
      p6_add_J25 M
    else
      (getR M a0 7 0).bind fun v_2 =>
      (lenA M v_2).bind fun v_3 =>
      if ((v_1 * 5) + 4) < v_3 then
        (getR M a0 7 0).bind fun v_4 =>
        (astI M v_4 ((v_1 * 5) + 0) x1).bind fun M_5 =>
        (getR M_5 a0 7 0).bind fun v_6 =>
        (astI M_5 v_6 ((v_1 * 5) + 1) x2).bind fun M_7 =>
        (getR M_7 a0 7 0).bind fun v_8 =>
        (astI M_7 v_8 ((v_1 * 5) + 2) x3).bind fun M_9 =>
        (getR M_9 a0 7 0).bind fun v_10 =>
        if x4 = 0 then
          p6_add_J74 a0 x5 (v_1 * 5) v_10 ((v_1 * 5) + 3) 0 M_9
        else
          p6_add_J74 a0 x5 (v_1 * 5) v_10 ((v_1 * 5) + 3) 1 M_9
      else
        p6_add_J25 M)
abbrev rm2_tell : Room := { frames := 2, cells := 0, slots := 0, locals := 58 }
def p2_tell_J75 (a0 : Nat) (x1 : Int32) (x2 : Int32) (x3 : Int32) (x4 : Int32) (a5 : Nat) (M : mMem) : Option (Int32 × mMem) :=
  (getI M a5 9 0).bind fun v_1 =>
  (p2_moved a0 v_1 x4 x3 M).bind fun v_2 =>
  (putI M a5 9 0 v_2).bind fun M_3 =>
  (getR M_3 a0 3 3).bind fun v_4 =>
  (getI M_3 a0 3 8).bind fun v_5 =>
  (getI M_3 a5 9 0).bind fun v_6 =>
  (p6_add v_4 v_5 x1 x2 x3 v_6 M_3).bind fun q_7 =>
  (getI q_7 a5 9 0).bind fun v_8 =>
  some (v_8, q_7)
def p2_tell_J43 (a0 : Nat) (x1 : Int32) (x2 : Int32) (x3 : Int32) (x4 : Int32) (a5 : Nat) (M : mMem) : Option (Int32 × mMem) :=
  if x3 = 0 then
    (getI M a5 9 0).bind fun v_1 =>
    if (v_1 - x4) < 0 then
      (getI M a5 9 1).bind fun v_2 =>
      (putI M a5 9 1 (minI 99 (v_2 + 1))).bind fun M_3 =>
      p2_tell_J75 a0 x1 x2 x3 x4 a5 M_3
    else
      p2_tell_J75 a0 x1 x2 x3 x4 a5 M
  else
    p2_tell_J75 a0 x1 x2 x3 x4 a5 M
def p2_tell (a0 : Nat) (x1 : Int32) (x2 : Int32) (x3 : Int32) (x4 : Int32) (M : mMem) : Option (Int32 × mMem) :=
  gd M a0 3 (
    (p2_at a0 x2 M).bind fun v_1 =>
    if x3 = 0 then
      p2_tell_J43 a0 x1 x2 x3 x4 v_1 M
    else
      (getI M v_1 9 0).bind fun v_2 =>
      (getI M a0 3 5).bind fun v_3 =>
      if (v_2 + x4) < v_3 then
        p2_tell_J43 a0 x1 x2 x3 x4 v_1 M
      else
        (getI M v_1 9 1).bind fun v_4 =>
        (putI M v_1 9 1 (maxI (-99) (v_4 - 1))).bind fun M_5 =>
        p2_tell_J43 a0 x1 x2 x3 x4 v_1 M_5)
abbrev rm2_endDay : Room := { frames := 1, cells := 0, slots := 0, locals := 32 }
def p2_endDay (a0 : Nat) (M : mMem) : Option mMem :=
  gd M a0 3 (
    (getI M a0 3 8).bind fun v_1 =>
    (putI M a0 3 8 (minI 9999 (v_1 + 1))).bind fun M_2 =>
    some M_2)
abbrev rm1_passDay : Room := { frames := 3, cells := 0, slots := 0, locals := 83 }
def p1_passDay_J124 (rec4 : Nat → Nat → Int32 → Int32 → mMem → Option (Int32 × mMem)) (a0 : Nat) (a1 : Nat) (x2 : Int32) (x3 : Int32) (M : mMem) : Option (Int32 × mMem) :=
  rec4 a0 a1 x2 (x3 + 1) M
def p1_passDay_J122 (rec4 : Nat → Nat → Int32 → Int32 → mMem → Option (Int32 × mMem)) (a0 : Nat) (a1 : Nat) (x3 : Int32) (u0 : Int32) (u1 : Int32) (M : mMem) : Option (Int32 × mMem) :=
  p1_passDay_J124 rec4 a0 a1 (u0 + u1) x3 M
def p1_passDay_J86 (rec4 : Nat → Nat → Int32 → Int32 → mMem → Option (Int32 × mMem)) (a0 : Nat) (a1 : Nat) (x2 : Int32) (x3 : Int32) (x5 : Int32) (u0 : Int32) (M : mMem) : Option (Int32 × mMem) :=
  (getR M a0 2 1).bind fun v_1 =>
  (p4_weight v_1 a1 x5 x3 u0 M).bind fun q_2 =>
  (p2_tell a1 x5 x3 u0 q_2.1 q_2.2).bind fun q_3 =>
  if u0 = 0 then
    p1_passDay_J122 rec4 a0 a1 x3 x2 1 q_3.2
  else
    p1_passDay_J122 rec4 a0 a1 x3 x2 0 q_3.2
def p1_passDay_L4 : Nat → Nat → Nat → Int32 → Int32 → mMem → Option (Int32 × mMem)
  | 0, _, _, _, _, _ => none
  | n + 1, a0, a1, x2, x3, M =>
    (getI M a1 3 4).bind fun v_1 =>
    if x3 < v_1 then
      (p2_at a1 x3 M).bind fun v_3 =>
      (getI M v_3 9 8).bind fun v_4 =>
      (pJ6_bitCount v_4 M).bind fun v_5 =>
      if 0 < v_5 then
        (p2_draw a1 M).bind fun q_6 =>
        (remI q_6.1 100).bind fun v_7 =>
        (p2_at a1 x3 q_6.2).bind fun v_8 =>
        (getI q_6.2 v_8 9 5).bind fun v_9 =>
        if v_7 < v_9 then
          (p2_draw a1 q_6.2).bind fun q_10 =>
          (remI q_10.1 v_5).bind fun v_11 =>
          (p2_governorAt a1 x3 v_11 q_10.2).bind fun v_12 =>
          (p2_draw a1 q_10.2).bind fun q_13 =>
          (remI q_13.1 100).bind fun v_14 =>
          (p2_at a1 v_12 q_13.2).bind fun v_15 =>
          (getI q_13.2 v_15 9 6).bind fun v_16 =>
          if v_14 < v_16 then
            p1_passDay_J86 (p1_passDay_L4 n) a0 a1 x2 x3 v_12 0 q_13.2
          else
            p1_passDay_J86 (p1_passDay_L4 n) a0 a1 x2 x3 v_12 1 q_13.2
        else
          p1_passDay_J124 (p1_passDay_L4 n) a0 a1 x2 x3 q_6.2
      else
        p1_passDay_J124 (p1_passDay_L4 n) a0 a1 x2 x3 M
    else
      (p2_endDay a1 M).bind fun q_2 =>
      some (x2, q_2)
def p1_passDay (a0 : Nat) (a1 : Nat) (M : mMem) : Option (Int32 × mMem) :=
  gd M a0 2 (
    p1_passDay_L4 gF a0 a1 0 0 M)
abbrev rm1_pass : Room := { frames := 4, cells := 0, slots := 0, locals := 109 }
def p1_pass_L5 : Nat → Nat → Nat → Int32 → Int32 → Int32 → mMem → Option (Int32 × mMem)
  | 0, _, _, _, _, _, _ => none
  | n + 1, a0, a1, x2, x3, x4, M =>
    if x4 < x2 then
      (p1_passDay a0 a1 M).bind fun q_1 =>
      (p1_pass_L5 n) a0 a1 x2 (x3 + q_1.1) (x4 + 1) q_1.2
    else
      some (x3, M)
def p1_pass (a0 : Nat) (a1 : Nat) (x2 : Int32) (M : mMem) : Option (Int32 × mMem) :=
  gd M a0 2 (
    p1_pass_L5 gF a0 a1 x2 0 0 M)
abbrev rm1_passAhead : Room := { frames := 3, cells := 0, slots := 0, locals := 83 }
def p1_passAhead_J50 (rec2 : Nat → Nat → Int32 → Int32 → mMem → Option mMem) (a0 : Nat) (a1 : Nat) (x2 : Int32) (x3 : Int32) (M : mMem) : Option mMem :=
  rec2 a0 a1 x2 (x3 + 1) M
def p1_passAhead_L2 : Nat → Nat → Nat → Int32 → Int32 → mMem → Option mMem
  | 0, _, _, _, _, _ => none
  | n + 1, a0, a1, x2, x3, M =>
    (getI M a1 3 4).bind fun v_1 =>
    if x3 < v_1 then
      (p2_at a1 x3 M).bind fun v_3 =>
      (getI M v_3 9 8).bind fun v_4 =>
      if v_4 = 0 then
        p1_passAhead_J50 (p1_passAhead_L2 n) a0 a1 x2 x3 M
      else
        (p2_governorAt a1 x3 0 M).bind fun v_5 =>
        (getR M a0 2 1).bind fun v_6 =>
        (p4_weight v_6 a1 v_5 x3 x2 M).bind fun q_7 =>
        (p2_tell a1 v_5 x3 x2 q_7.1 q_7.2).bind fun q_8 =>
        p1_passAhead_J50 (p1_passAhead_L2 n) a0 a1 x2 x3 q_8.2
    else
      (p2_endDay a1 M).bind fun q_2 =>
      some q_2
def p1_passAhead (a0 : Nat) (a1 : Nat) (x2 : Int32) (M : mMem) : Option mMem :=
  gd M a0 2 (
    p1_passAhead_L2 gF a0 a1 x2 0 M)
abbrev rm1_ageAhead : Room := { frames := 4, cells := 0, slots := 0, locals := 107 }
def p1_ageAhead_L14 : Nat → Nat → Int32 → Int32 → Int32 → Int32 → mMem → Option (Int32 × mMem)
  | 0, _, _, _, _, _, _ => none
  | n + 1, a0, x1, x2, x3, x4, M =>
    if x4 < x2 then
      (getR M a0 2 2).bind fun v_4 =>
      (p1_passAhead a0 v_4 x3 M).bind fun q_5 =>
      (p1_ageAhead_L14 n) a0 x1 x2 x3 (x4 + 1) q_5
    else
      (getR M a0 2 2).bind fun v_1 =>
      (p2_at v_1 x1 M).bind fun v_2 =>
      (getI M v_2 9 0).bind fun v_3 =>
      some (v_3, M)
def p1_ageAhead (a0 : Nat) (x1 : Int32) (x2 : Int32) (x3 : Int32) (M : mMem) : Option (Int32 × mMem) :=
  gd M a0 2 (
    (getR M a0 2 2).bind fun v_1 =>
    (getR M a0 2 0).bind fun v_2 =>
    (p2_take v_1 v_2 M).bind fun q_3 =>
    p1_ageAhead_L14 gF a0 x1 x2 x3 0 q_3)
abbrev rm2_inCrib : Room := { frames := 1, cells := 0, slots := 0, locals := 21 }
def p2_inCrib_J33 (M : mMem) (rec4 : Nat → Int32 → Int32 → Option Int32) (a0 : Nat) (x1 : Int32) (x2 : Int32) : Option Int32 :=
  rec4 a0 x1 (x2 + 1)
def p2_inCrib_L4 (M : mMem) : Nat → Nat → Int32 → Int32 → Option Int32
  | 0, _, _, _ => none
  | n + 1, a0, x1, x2 =>
    (getI M a0 3 4).bind fun v_1 =>
    if x2 < v_1 then
      (p2_at a0 x2 M).bind fun v_2 =>
      (getI M v_2 9 0).bind fun v_3 =>
      (getI M a0 3 6).bind fun v_4 =>
      if v_3 < v_4 then
        p2_inCrib_J33 M (p2_inCrib_L4 M n) a0 (x1 ||| ((1 : Int32) <<< (x2 &&& 31))) x2
      else
        p2_inCrib_J33 M (p2_inCrib_L4 M n) a0 x1 x2
    else
      some x1
def p2_inCrib (a0 : Nat) (M : mMem) : Option Int32 :=
  gd M a0 3 (
    p2_inCrib_L4 M gF a0 0 0)
abbrev rmJ6_numberOfTrailingZeros : Room := { frames := 0, cells := 0, slots := 0, locals := 0 }
def pJ6_numberOfTrailingZeros_J74 (M : mMem) (x0 : Int32) (x1 : Int32) : Option Int32 :=
  some (x1 + (ushr x0 1))
def pJ6_numberOfTrailingZeros_J62 (M : mMem) (x0 : Int32) (x1 : Int32) : Option Int32 :=
  if 4 < x0 then
    pJ6_numberOfTrailingZeros_J74 M (ushr x0 2) (x1 + 2)
  else
    pJ6_numberOfTrailingZeros_J74 M x0 x1
def pJ6_numberOfTrailingZeros_J49 (M : mMem) (x0 : Int32) (x1 : Int32) : Option Int32 :=
  if 16 < x0 then
    pJ6_numberOfTrailingZeros_J62 M (ushr x0 4) (x1 + 4)
  else
    pJ6_numberOfTrailingZeros_J62 M x0 x1
def pJ6_numberOfTrailingZeros_J34 (M : mMem) (x0 : Int32) (x1 : Int32) : Option Int32 :=
  if 256 < x0 then
    pJ6_numberOfTrailingZeros_J49 M (ushr x0 8) (x1 + 8)
  else
    pJ6_numberOfTrailingZeros_J49 M x0 x1
def pJ6_numberOfTrailingZeros (x0 : Int32) (M : mMem) : Option Int32 :=
  if 0 < ((x0 ^^^ (-1)) &&& (x0 - 1)) then
    if 65536 < ((x0 ^^^ (-1)) &&& (x0 - 1)) then
      pJ6_numberOfTrailingZeros_J34 M (ushr ((x0 ^^^ (-1)) &&& (x0 - 1)) 16) (1 + 16)
    else
      pJ6_numberOfTrailingZeros_J34 M ((x0 ^^^ (-1)) &&& (x0 - 1)) 1
  else
    some (((x0 ^^^ (-1)) &&& (x0 - 1)) &&& 32)
abbrev rm1_firstInCrib : Room := { frames := 4, cells := 0, slots := 0, locals := 107 }
def p1_firstInCrib_L13 (k33 : Int32 → Int32 → Int32 → mMem → Option (Int32 × mMem)) : Nat → Nat → Int32 → Int32 → Int32 → mMem → Option (Int32 × mMem)
  | 0, _, _, _, _, _ => none
  | n + 1, a0, x1, x2, x3, M =>
    if 100 < x3 then
      some ((-1), M)
    else
      (getR M a0 2 2).bind fun v_1 =>
      (p2_inCrib v_1 M).bind fun v_2 =>
      if v_2 = 0 then
        (getR M a0 2 2).bind fun v_3 =>
        (p1_passAhead a0 v_3 x1 M).bind fun q_4 =>
        (p1_firstInCrib_L13 k33 n) a0 x1 x2 (x3 + 1) q_4
      else
        k33 x2 x3 v_2 M
def p1_firstInCrib_J46 (u0 : Int32) (M : mMem) : Option (Int32 × mMem) :=
  some (u0, M)
def p1_firstInCrib_J33 (x2 : Int32) (x3 : Int32) (x4 : Int32) (M : mMem) : Option (Int32 × mMem) :=
  if x2 = 0 then
    p1_firstInCrib_J46 x3 M
  else
    (pJ6_numberOfTrailingZeros x4 M).bind fun v_1 =>
    p1_firstInCrib_J46 v_1 M
def p1_firstInCrib (a0 : Nat) (x1 : Int32) (x2 : Int32) (M : mMem) : Option (Int32 × mMem) :=
  gd M a0 2 (
    (getR M a0 2 2).bind fun v_1 =>
    (getR M a0 2 0).bind fun v_2 =>
    (p2_take v_1 v_2 M).bind fun q_3 =>
    p1_firstInCrib_L13 p1_firstInCrib_J33 gF a0 x1 x2 0 q_3)
abbrev rm1_areAsNow : Room := { frames := 1, cells := 0, slots := 0, locals := 21 }
def p1_areAsNow_L2 (M : mMem) : Nat → Nat → Nat → Int32 → Option Int32
  | 0, _, _, _ => none
  | n + 1, a0, a1, x2 =>
    (getR M a0 2 0).bind fun v_1 =>
    (getI M v_1 3 4).bind fun v_2 =>
    if x2 < v_2 then
      (p2_at a1 x2 M).bind fun v_3 =>
      (getI M v_3 9 0).bind fun v_4 =>
      (getR M a0 2 0).bind fun v_5 =>
      (p2_at v_5 x2 M).bind fun v_6 =>
      (getI M v_6 9 0).bind fun v_7 =>
      if v_4 = v_7 then
        (p1_areAsNow_L2 M n) a0 a1 (x2 + 1)
      else
        some 0
    else
      some 1
def p1_areAsNow (a0 : Nat) (a1 : Nat) (M : mMem) : Option Int32 :=
  gd M a0 2 (
    p1_areAsNow_L2 M gF a0 a1 0)
abbrev rm1_firstAsNow : Room := { frames := 4, cells := 0, slots := 0, locals := 107 }
def p1_firstAsNow_L13 : Nat → Nat → Int32 → Int32 → mMem → Option (Int32 × mMem)
  | 0, _, _, _, _ => none
  | n + 1, a0, x1, x2, M =>
    if 100 < x2 then
      some ((-1), M)
    else
      (getR M a0 2 2).bind fun v_1 =>
      (p1_passAhead a0 v_1 x1 M).bind fun q_2 =>
      (getR q_2 a0 2 2).bind fun v_3 =>
      (p1_areAsNow a0 v_3 q_2).bind fun v_4 =>
      if v_4 = 0 then
        (p1_firstAsNow_L13 n) a0 x1 (x2 + 1) q_2
      else
        some (x2, q_2)
def p1_firstAsNow (a0 : Nat) (x1 : Int32) (M : mMem) : Option (Int32 × mMem) :=
  gd M a0 2 (
    (getR M a0 2 2).bind fun v_1 =>
    (getR M a0 2 0).bind fun v_2 =>
    (p2_take v_1 v_2 M).bind fun q_3 =>
    p1_firstAsNow_L13 gF a0 x1 1 q_3)
abbrev rm1_firstTurn : Room := { frames := 4, cells := 0, slots := 0, locals := 107 }
def p1_firstTurn_L13 : Nat → Nat → Int32 → Int32 → mMem → Option (Int32 × mMem)
  | 0, _, _, _, _ => none
  | n + 1, a0, x1, x2, M =>
    if 100 < x2 then
      some ((-1), M)
    else
      (getR M a0 2 2).bind fun v_1 =>
      (p1_passAhead a0 v_1 0 M).bind fun q_2 =>
      (getR q_2 a0 2 2).bind fun v_3 =>
      (p2_at v_3 x1 q_2).bind fun v_4 =>
      (getI q_2 v_4 9 1).bind fun v_5 =>
      (getR q_2 a0 2 0).bind fun v_6 =>
      (p2_at v_6 x1 q_2).bind fun v_7 =>
      (getI q_2 v_7 9 1).bind fun v_8 =>
      if v_8 < v_5 then
        some (x2, q_2)
      else
        (p1_firstTurn_L13 n) a0 x1 (x2 + 1) q_2
def p1_firstTurn (a0 : Nat) (x1 : Int32) (M : mMem) : Option (Int32 × mMem) :=
  gd M a0 2 (
    (getR M a0 2 2).bind fun v_1 =>
    (getR M a0 2 0).bind fun v_2 =>
    (p2_take v_1 v_2 M).bind fun q_3 =>
    p1_firstTurn_L13 gF a0 x1 1 q_3)
abbrev rm1_isMild : Room := { frames := 4, cells := 0, slots := 0, locals := 107 }
def p1_isMild_L21 : Nat → Nat → Int32 → Int32 → mMem → Option (Int32 × mMem)
  | 0, _, _, _, _ => none
  | n + 1, a0, x2, x3, M =>
    if x3 < x2 then
      (getR M a0 2 2).bind fun v_1 =>
      (p1_passAhead a0 v_1 0 M).bind fun q_2 =>
      (getR q_2 a0 2 2).bind fun v_3 =>
      (p2_inCrib v_3 q_2).bind fun v_4 =>
      if v_4 = 0 then
        (p1_isMild_L21 n) a0 x2 (x3 + 1) q_2
      else
        some (0, q_2)
    else
      some (1, M)
def p1_isMild (a0 : Nat) (x1 : Int32) (x2 : Int32) (M : mMem) : Option (Int32 × mMem) :=
  gd M a0 2 (
    (getR M a0 2 2).bind fun v_1 =>
    (getR M a0 2 0).bind fun v_2 =>
    (p2_take v_1 v_2 M).bind fun q_3 =>
    (getR q_3 a0 2 2).bind fun v_4 =>
    (putI q_3 v_4 3 7 x1).bind fun M_5 =>
    p1_isMild_L21 gF a0 x2 0 M_5)
abbrev rm1_mildest : Room := { frames := 5, cells := 0, slots := 0, locals := 130 }
def p1_mildest_L3 : Nat → Nat → Int32 → Int32 → mMem → Option (Int32 × mMem)
  | 0, _, _, _, _ => none
  | n + 1, a0, x1, x2, M =>
    if x2 < 0 then
      some ((-1), M)
    else
      (p1_isMild a0 x2 x1 M).bind fun q_1 =>
      if q_1.1 = 0 then
        (p1_mildest_L3 n) a0 x1 (x2 + (-1)) q_1.2
      else
        some (x2, q_1.2)
def p1_mildest (a0 : Nat) (x1 : Int32) (M : mMem) : Option (Int32 × mMem) :=
  gd M a0 2 (
    p1_mildest_L3 gF a0 x1 20 M)
abbrev rm2_agesTogether : Room := { frames := 1, cells := 0, slots := 0, locals := 21 }
def p2_agesTogether_L4 (M : mMem) : Nat → Nat → Int32 → Int32 → Option Int32
  | 0, _, _, _ => none
  | n + 1, a0, x1, x2 =>
    (getI M a0 3 4).bind fun v_1 =>
    if x2 < v_1 then
      (p2_at a0 x2 M).bind fun v_2 =>
      (getI M v_2 9 0).bind fun v_3 =>
      (p2_agesTogether_L4 M n) a0 (x1 + v_3) (x2 + 1)
    else
      some x1
def p2_agesTogether (a0 : Nat) (M : mMem) : Option Int32 :=
  gd M a0 3 (
    p2_agesTogether_L4 M gF a0 0 0)
abbrev rm1_tried : Room := { frames := 5, cells := 0, slots := 0, locals := 133 }
def p1_tried_J42 (u0 : Int32) (M : mMem) : Option (Int32 × mMem) :=
  some (u0, M)
def p1_tried (a0 : Nat) (x1 : Int32) (x2 : Int32) (M : mMem) : Option (Int32 × mMem) :=
  gd M a0 2 (
    (getR M a0 2 2).bind fun v_1 =>
    (getR M a0 2 0).bind fun v_2 =>
    (p2_take v_1 v_2 M).bind fun q_3 =>
    (getR q_3 a0 2 2).bind fun v_4 =>
    (p1_pass a0 v_4 x1 q_3).bind fun q_5 =>
    if x2 = 0 then
      (getR q_5.2 a0 2 2).bind fun v_6 =>
      (p2_agesTogether v_6 q_5.2).bind fun v_7 =>
      p1_tried_J42 v_7 q_5.2
    else
      (getR q_5.2 a0 2 2).bind fun v_8 =>
      (p2_inCrib v_8 q_5.2).bind fun v_9 =>
      p1_tried_J42 v_9 q_5.2)
abbrev rm1_spanned : Room := { frames := 5, cells := 0, slots := 0, locals := 133 }
def p1_spanned_J78 (rec5 : Nat → Int32 → Int32 → Int32 → Int32 → mMem → Option (Int32 × mMem)) (a0 : Nat) (x1 : Int32) (x2 : Int32) (x3 : Int32) (x4 : Int32) (M : mMem) : Option (Int32 × mMem) :=
  rec5 a0 x1 x2 x3 (x4 + 1) M
def p1_spanned_J75 (rec5 : Nat → Int32 → Int32 → Int32 → Int32 → mMem → Option (Int32 × mMem)) (a0 : Nat) (x1 : Int32) (x2 : Int32) (x4 : Int32) (x5 : Int32) (M : mMem) : Option (Int32 × mMem) :=
  p1_spanned_J78 rec5 a0 x1 x2 x5 x4 M
def p1_spanned_L5 : Nat → Nat → Int32 → Int32 → Int32 → Int32 → mMem → Option (Int32 × mMem)
  | 0, _, _, _, _, _, _ => none
  | n + 1, a0, x1, x2, x3, x4, M =>
    if 6 < x4 then
      some (x3, M)
    else
      (getR M a0 2 2).bind fun v_1 =>
      (getR M a0 2 0).bind fun v_2 =>
      (p2_take v_1 v_2 M).bind fun q_3 =>
      (getR q_3 a0 2 2).bind fun v_4 =>
      (putI q_3 v_4 3 9 x4).bind fun M_5 =>
      (getR M_5 a0 2 2).bind fun v_6 =>
      (p1_pass a0 v_6 x1 M_5).bind fun q_7 =>
      (getR q_7.2 a0 2 2).bind fun v_8 =>
      (p2_agesTogether v_8 q_7.2).bind fun v_9 =>
      if x3 = (-1) then
        p1_spanned_J75 (p1_spanned_L5 n) a0 x1 x2 x4 v_9 q_7.2
      else
        if x2 = 0 then
          if v_9 < x3 then
            p1_spanned_J75 (p1_spanned_L5 n) a0 x1 x2 x4 v_9 q_7.2
          else
            p1_spanned_J78 (p1_spanned_L5 n) a0 x1 x2 x3 x4 q_7.2
        else
          if x3 < v_9 then
            p1_spanned_J75 (p1_spanned_L5 n) a0 x1 x2 x4 v_9 q_7.2
          else
            p1_spanned_J78 (p1_spanned_L5 n) a0 x1 x2 x3 x4 q_7.2
def p1_spanned (a0 : Nat) (x1 : Int32) (x2 : Int32) (M : mMem) : Option (Int32 × mMem) :=
  gd M a0 2 (
    p1_spanned_L5 gF a0 x1 x2 (-1) 1 M)
abbrev rm2_add : Room := { frames := 1, cells := 0, slots := 0, locals := 21 }
def p2_add (a0 : Nat) (x1 : Int32) (x2 : Int32) (x3 : Int32) (M : mMem) : Option (Int32 × mMem) :=
  gd M a0 3 (
    (getI M a0 3 4).bind fun v_1 =>
    (p2_at a0 v_1 M).bind fun v_2 =>
    (getR M a0 3 1).bind fun v_3 =>
    (p8_take v_2 v_3 M).bind fun q_4 =>
    (putI q_4 v_2 9 2 x1).bind fun M_5 =>
    (putI M_5 v_2 9 0 x2).bind fun M_6 =>
    (putI M_6 v_2 9 3 x3).bind fun M_7 =>
    (getI M_7 a0 3 4).bind fun v_8 =>
    (putI M_7 a0 3 4 (v_8 + 1)).bind fun M_9 =>
    (getI M_9 a0 3 4).bind fun v_10 =>
    some ((v_10 - 1), M_9))
abbrev rm2_gapOf : Room := { frames := 1, cells := 0, slots := 0, locals := 32 }
def p2_gapOf_J28 (M : mMem) (a0 : Nat) (u0 : Int32) : Option Int32 :=
  (getI M a0 3 5).bind fun v_1 =>
  some (minI u0 (v_1 - u0))
def p2_gapOf (a0 : Nat) (x1 : Int32) (x2 : Int32) (M : mMem) : Option Int32 :=
  gd M a0 3 (
    (p2_at a0 x1 M).bind fun v_1 =>
    (getI M v_1 9 0).bind fun v_2 =>
    (p2_at a0 x2 M).bind fun v_3 =>
    (getI M v_3 9 0).bind fun v_4 =>
    if (v_2 - v_4) < 0 then
      p2_gapOf_J28 M a0 (-(v_2 - v_4))
    else
      p2_gapOf_J28 M a0 (v_2 - v_4))
