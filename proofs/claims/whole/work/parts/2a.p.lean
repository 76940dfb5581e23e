def gF : Nat := 4294967296
abbrev rm8_init : Room := { frames := 1, cells := 0, slots := 0, locals := 32 }
def p8_init (a0 : Nat) (M : mMem) : Option mMem :=
  gd M a0 9 (
    (putI M a0 9 3 (-1)).bind fun M_1 =>
    (putI M_1 a0 9 4 (-1)).bind fun M_2 =>
    (putI M_2 a0 9 6 50).bind fun M_3 =>
    some M_3)
abbrev rm6_init : Room := { frames := 1, cells := 1, slots := 300, locals := 32 }
def p6_init (a0 : Nat) (M : mMem) : Option mMem :=
  gd M a0 7 (
    (newC M 20 300).bind fun n_1 =>
    (putR n_1.2 a0 7 0 n_1.1).bind fun M_2 =>
    (putI M_2 a0 7 1 0).bind fun M_3 =>
    (putI M_3 a0 7 2 0).bind fun M_4 =>
    some M_4)
abbrev rm2_init : Room := { frames := 2, cells := 14, slots := 465, locals := 52 }
def p2_init_L81 : Nat → Nat → Int32 → mMem → Option mMem
  | 0, _, _, _ => none
  | n + 1, a0, x1, M =>
    (getR M a0 3 0).bind fun v_1 =>
    (lenA M v_1).bind fun v_2 =>
    if x1 < v_2 then
      (getR M a0 3 0).bind fun v_3 =>
      (newC M 9 0).bind fun n_4 =>
      (p8_init n_4.1 n_4.2).bind fun q_5 =>
      (astR q_5 v_3 24 9 x1 n_4.1).bind fun M_6 =>
      (p2_init_L81 n) a0 (x1 + 1) M_6
    else
      some M
def p2_init (a0 : Nat) (M : mMem) : Option mMem :=
  gd M a0 3 (
    (newC M 24 8).bind fun n_1 =>
    (putR n_1.2 a0 3 0 n_1.1).bind fun M_2 =>
    (newC M_2 9 0).bind fun n_3 =>
    (p8_init n_3.1 n_3.2).bind fun q_4 =>
    (putR q_4 a0 3 1 n_3.1).bind fun M_5 =>
    (newC M_5 20 64).bind fun n_6 =>
    (putR n_6.2 a0 3 2 n_6.1).bind fun M_7 =>
    (newC M_7 7 0).bind fun n_8 =>
    (p6_init n_8.1 n_8.2).bind fun q_9 =>
    (putR q_9 a0 3 3 n_8.1).bind fun M_10 =>
    (putI M_10 a0 3 4 0).bind fun M_11 =>
    (putI M_11 a0 3 5 90).bind fun M_12 =>
    (putI M_12 a0 3 6 5).bind fun M_13 =>
    (putI M_13 a0 3 7 1).bind fun M_14 =>
    (putI M_14 a0 3 8 0).bind fun M_15 =>
    (putI M_15 a0 3 9 1).bind fun M_16 =>
    (putI M_16 a0 3 10 0).bind fun M_17 =>
    p2_init_L81 9 a0 0 M_17)
abbrev rm2_has : Room := { frames := 0, cells := 0, slots := 0, locals := 0 }
def p2_has_J17 (M : mMem) (u0 : Int32) : Option Int32 :=
  (bZ u0).bind fun z => some z
def p2_has_J16 (M : mMem) : Option Int32 :=
  p2_has_J17 M 0
def p2_has (a0 : Nat) (x1 : Int32) (M : mMem) : Option Int32 :=
  gd M a0 3 (
    if x1 < 0 then
      p2_has_J16 M
    else
      (getI M a0 3 4).bind fun v_1 =>
      if x1 < v_1 then
        p2_has_J17 M 1
      else
        p2_has_J16 M)
abbrev rm2_at : Room := { frames := 0, cells := 0, slots := 0, locals := 0 }
def p2_at_J26 (M : mMem) (b0 : Nat) : Option Nat :=
  some b0
def p2_at_J22 (M : mMem) (a0 : Nat) : Option Nat :=
  (getR M a0 3 1).bind fun v_1 =>
  p2_at_J26 M v_1
def p2_at (a0 : Nat) (x1 : Int32) (M : mMem) : Option Nat :=
  gd M a0 3 (
    if x1 < 0 then
      p2_at_J22 M a0
    else
      (getR M a0 3 0).bind fun v_1 =>
      (lenA M v_1).bind fun v_2 =>
      if x1 < v_2 then
        (getR M a0 3 0).bind fun v_3 =>
        (aldR M v_3 24 x1).bind fun v_4 =>
        p2_at_J26 M v_4
      else
        p2_at_J22 M a0)
abbrev rm2_governs : Room := { frames := 1, cells := 0, slots := 0, locals := 21 }
def p2_governs_J29 (M : mMem) (u0 : Int32) : Option Int32 :=
  (bZ u0).bind fun z => some z
def p2_governs_J28 (M : mMem) : Option Int32 :=
  p2_governs_J29 M 0
def p2_governs (a0 : Nat) (x1 : Int32) (x2 : Int32) (M : mMem) : Option Int32 :=
  gd M a0 3 (
    (p2_has a0 x1 M).bind fun v_1 =>
    if v_1 = 0 then
      p2_governs_J28 M
    else
      (p2_at a0 x2 M).bind fun v_2 =>
      (getI M v_2 9 8).bind fun v_3 =>
      if ((v_3 >>> (x1 &&& 31)) &&& 1) = 1 then
        p2_governs_J29 M 1
      else
        p2_governs_J28 M)
abbrev rm2_leftByRound : Room := { frames := 0, cells := 0, slots := 0, locals := 0 }
def p2_leftByRound_J17 (M : mMem) (u0 : Int32) : Option Int32 :=
  some u0
def p2_leftByRound (a0 : Nat) (x1 : Int32) (M : mMem) : Option Int32 :=
  gd M a0 3 (
    (getI M a0 3 5).bind fun v_1 =>
    if 0 < v_1 then
      (getI M a0 3 5).bind fun v_2 =>
      (remI x1 v_2).bind fun v_3 =>
      p2_leftByRound_J17 M v_3
    else
      p2_leftByRound_J17 M 0)
abbrev rm2_moved : Room := { frames := 0, cells := 0, slots := 0, locals := 0 }
def p2_moved_J49 (M : mMem) (u0 : Int32) : Option Int32 :=
  some u0
def p2_moved_J13 (M : mMem) (a0 : Nat) (u0 : Int32) : Option Int32 :=
  if u0 < 0 then
    (getI M a0 3 5).bind fun v_3 =>
    some (u0 + v_3)
  else
    (getI M a0 3 5).bind fun v_1 =>
    if u0 < v_1 then
      p2_moved_J49 M u0
    else
      (getI M a0 3 5).bind fun v_2 =>
      p2_moved_J49 M (u0 - v_2)
def p2_moved (a0 : Nat) (x1 : Int32) (x2 : Int32) (x3 : Int32) (M : mMem) : Option Int32 :=
  gd M a0 3 (
    if x3 = 0 then
      p2_moved_J13 M a0 (x1 - x2)
    else
      p2_moved_J13 M a0 (x1 + x2))
abbrev rm8_take : Room := { frames := 0, cells := 0, slots := 0, locals := 0 }
def p8_take (a0 : Nat) (a1 : Nat) (M : mMem) : Option mMem :=
  gd M a0 9 (
    (getI M a1 9 0).bind fun v_1 =>
    (putI M a0 9 0 v_1).bind fun M_2 =>
    (getI M_2 a1 9 1).bind fun v_3 =>
    (putI M_2 a0 9 1 v_3).bind fun M_4 =>
    (getI M_4 a1 9 2).bind fun v_5 =>
    (putI M_4 a0 9 2 v_5).bind fun M_6 =>
    (getI M_6 a1 9 3).bind fun v_7 =>
    (putI M_6 a0 9 3 v_7).bind fun M_8 =>
    (getI M_8 a1 9 4).bind fun v_9 =>
    (putI M_8 a0 9 4 v_9).bind fun M_10 =>
    (getI M_10 a1 9 5).bind fun v_11 =>
    (putI M_10 a0 9 5 v_11).bind fun M_12 =>
    (getI M_12 a1 9 6).bind fun v_13 =>
    (putI M_12 a0 9 6 v_13).bind fun M_14 =>
    (getI M_14 a1 9 7).bind fun v_15 =>
    (putI M_14 a0 9 7 v_15).bind fun M_16 =>
    (getI M_16 a1 9 8).bind fun v_17 =>
    (putI M_16 a0 9 8 v_17).bind fun M_18 =>
    some M_18)
abbrev rm6_take : Room := { frames := 1, cells := 0, slots := 0, locals := 48 }
def p6_take (a0 : Nat) (a1 : Nat) (M : mMem) : Option mMem :=
  gd M a0 7 (
    (getR M a1 7 0).bind fun v_1 =>
    (getR M a0 7 0).bind fun v_2 =>
    (getR M a0 7 0).bind fun v_3 =>
    (lenA M v_3).bind fun v_4 =>
    (cpyI M v_1 0 v_2 0 v_4).bind fun M_5 =>
    (getI M_5 a1 7 1).bind fun v_6 =>
    (putI M_5 a0 7 1 v_6).bind fun M_7 =>
    (getI M_7 a1 7 2).bind fun v_8 =>
    (putI M_7 a0 7 2 v_8).bind fun M_9 =>
    some M_9)
abbrev rm2_take : Room := { frames := 2, cells := 0, slots := 0, locals := 69 }
def p2_take_L2 : Nat → Nat → Nat → Int32 → mMem → Option mMem
  | 0, _, _, _, _ => none
  | n + 1, a0, a1, x2, M =>
    (getR M a0 3 0).bind fun v_1 =>
    (lenA M v_1).bind fun v_2 =>
    if x2 < v_2 then
      (getR M a0 3 0).bind fun v_25 =>
      (aldR M v_25 24 x2).bind fun v_26 =>
      (p2_at a1 x2 M).bind fun v_27 =>
      (p8_take v_26 v_27 M).bind fun q_28 =>
      (p2_take_L2 n) a0 a1 (x2 + 1) q_28
    else
      (getR M a1 3 2).bind fun v_3 =>
      (getR M a0 3 2).bind fun v_4 =>
      (getR M a0 3 2).bind fun v_5 =>
      (lenA M v_5).bind fun v_6 =>
      (cpyI M v_3 0 v_4 0 v_6).bind fun M_7 =>
      (getR M_7 a0 3 3).bind fun v_8 =>
      (getR M_7 a1 3 3).bind fun v_9 =>
      (p6_take v_8 v_9 M_7).bind fun q_10 =>
      (getI q_10 a1 3 4).bind fun v_11 =>
      (putI q_10 a0 3 4 v_11).bind fun M_12 =>
      (getI M_12 a1 3 5).bind fun v_13 =>
      (putI M_12 a0 3 5 v_13).bind fun M_14 =>
      (getI M_14 a1 3 6).bind fun v_15 =>
      (putI M_14 a0 3 6 v_15).bind fun M_16 =>
      (getI M_16 a1 3 7).bind fun v_17 =>
      (putI M_16 a0 3 7 v_17).bind fun M_18 =>
      (getI M_18 a1 3 8).bind fun v_19 =>
      (putI M_18 a0 3 8 v_19).bind fun M_20 =>
      (getI M_20 a1 3 9).bind fun v_21 =>
      (putI M_20 a0 3 9 v_21).bind fun M_22 =>
      (getI M_22 a1 3 10).bind fun v_23 =>
      (putI M_22 a0 3 10 v_23).bind fun M_24 =>
      some M_24
def p2_take (a0 : Nat) (a1 : Nat) (M : mMem) : Option mMem :=
  gd M a0 3 (
    p2_take_L2 gF a0 a1 0 M)
abbrev rm2_draw : Room := { frames := 0, cells := 0, slots := 0, locals := 0 }
def p2_draw (a0 : Nat) (M : mMem) : Option (Int32 × mMem) :=
  gd M a0 3 (
    (getI M a0 3 9).bind fun v_1 =>
    (putI M a0 3 9 ((1103515245 * v_1) + 12345)).bind fun M_2 =>
    (getI M_2 a0 3 9).bind fun v_3 =>
    some (((ushr v_3 16) &&& 32767), M_2))
abbrev rm2_governorAt : Room := { frames := 2, cells := 0, slots := 0, locals := 43 }
def p2_governorAt_J35 (M : mMem) (rec5 : Nat → Int32 → Int32 → Int32 → Int32 → Option Int32) (a0 : Nat) (x1 : Int32) (x2 : Int32) (x3 : Int32) (x4 : Int32) : Option Int32 :=
  rec5 a0 x1 x2 x3 (x4 + 1)
def p2_governorAt_L5 (M : mMem) : Nat → Nat → Int32 → Int32 → Int32 → Int32 → Option Int32
  | 0, _, _, _, _, _ => none
  | n + 1, a0, x1, x2, x3, x4 =>
    (getI M a0 3 4).bind fun v_1 =>
    if x4 < v_1 then
      (p2_governs a0 x4 x1 M).bind fun v_2 =>
      if v_2 = 0 then
        p2_governorAt_J35 M (p2_governorAt_L5 M n) a0 x1 x2 x3 x4
      else
        if x3 = x2 then
          some x4
        else
          p2_governorAt_J35 M (p2_governorAt_L5 M n) a0 x1 x2 (x3 + 1) x4
    else
      some (-1)
def p2_governorAt (a0 : Nat) (x1 : Int32) (x2 : Int32) (M : mMem) : Option Int32 :=
  gd M a0 3 (
    p2_governorAt_L5 M gF a0 x1 x2 0 0)
abbrev rm6_add : Room := { frames := 1, cells := 0, slots := 0, locals := 32 }
def p6_add_J25 (M : mMem) : Option mMem :=
  some M
def p6_add_J108 (a0 : Nat) (b0 : Nat) (u1 : Int32) (M : mMem) : Option mMem :=
  (putI M b0 7 1 u1).bind fun M_1 =>
  (getI M_1 a0 7 2).bind fun v_2 =>
  (putI M_1 a0 7 2 (minI 60 (v_2 + 1))).bind fun M_3 =>
  some M_3
def p6_add_J74 (a0 : Nat) (x5 : Int32) (x6 : Int32) (b0 : Nat) (u1 : Int32) (u2 : Int32) (M : mMem) : Option mMem :=
  (astI M b0 u1 u2).bind fun M_1 =>
  (getR M_1 a0 7 0).bind fun v_2 =>
  (astI M_1 v_2 (x6 + 4) x5).bind fun M_3 =>
  (getI M_3 a0 7 1).bind fun v_4 =>
  if (v_4 + 1) < 60 then
    (getI M_3 a0 7 1).bind fun v_5 =>
    p6_add_J108 a0 a0 (v_5 + 1) M_3
  else
    p6_add_J108 a0 a0 0 M_3
def p6_add (a0 : Nat) (x1 : Int32) (x2 : Int32) (x3 : Int32) (x4 : Int32) (x5 : Int32) (M : mMem) : Option mMem :=
  gd M a0 7 (
    (getI M a0 7 1).bind fun v_1 =>
    if (v_1 * 5) < 0 then
      p6_add_J25 M
    else
      (getR M a0 7 0).bind fun v_2 =>
      (lenA M v_2).bind fun v_3 =>
      if ((v_1 * 5) + 4) < v_3 then
        (getR M a0 7 0).bind fun v_4 =>
        (astI M v_4 ((v_1 * 5) + 0) x1).bind fun M_5 =>
        (getR M_5 a0 7 0).bind fun v_6 =>
        (astI M_5 v_6 ((v_1 * 5) + 1) x2).bind fun M_7 =>
        (getR M_7 a0 7 0).bind fun v_8 =>
        (astI M_7 v_8 ((v_1 * 5) + 2) x3).bind fun M_9 =>
        (getR M_9 a0 7 0).bind fun v_10 =>
        if x4 = 0 then
          p6_add_J74 a0 x5 (v_1 * 5) v_10 ((v_1 * 5) + 3) 0 M_9
        else
          p6_add_J74 a0 x5 (v_1 * 5) v_10 ((v_1 * 5) + 3) 1 M_9
      else
        p6_add_J25 M)
abbrev rm2_tell : Room := { frames := 2, cells := 0, slots := 0, locals := 58 }
def p2_tell_J75 (a0 : Nat) (x1 : Int32) (x2 : Int32) (x3 : Int32) (x4 : Int32) (a5 : Nat) (M : mMem) : Option (Int32 × mMem) :=
  (getI M a5 9 0).bind fun v_1 =>
  (p2_moved a0 v_1 x4 x3 M).bind fun v_2 =>
  (putI M a5 9 0 v_2).bind fun M_3 =>
  (getR M_3 a0 3 3).bind fun v_4 =>
  (getI M_3 a0 3 8).bind fun v_5 =>
  (getI M_3 a5 9 0).bind fun v_6 =>
  (p6_add v_4 v_5 x1 x2 x3 v_6 M_3).bind fun q_7 =>
  (getI q_7 a5 9 0).bind fun v_8 =>
  some (v_8, q_7)
def p2_tell_J43 (a0 : Nat) (x1 : Int32) (x2 : Int32) (x3 : Int32) (x4 : Int32) (a5 : Nat) (M : mMem) : Option (Int32 × mMem) :=
  if x3 = 0 then
    (getI M a5 9 0).bind fun v_1 =>
    if (v_1 - x4) < 0 then
      (getI M a5 9 1).bind fun v_2 =>
      (putI M a5 9 1 (minI 99 (v_2 + 1))).bind fun M_3 =>
      p2_tell_J75 a0 x1 x2 x3 x4 a5 M_3
    else
      p2_tell_J75 a0 x1 x2 x3 x4 a5 M
  else
    p2_tell_J75 a0 x1 x2 x3 x4 a5 M
def p2_tell (a0 : Nat) (x1 : Int32) (x2 : Int32) (x3 : Int32) (x4 : Int32) (M : mMem) : Option (Int32 × mMem) :=
  gd M a0 3 (
    (p2_at a0 x2 M).bind fun v_1 =>
    if x3 = 0 then
      p2_tell_J43 a0 x1 x2 x3 x4 v_1 M
    else
      (getI M v_1 9 0).bind fun v_2 =>
      (getI M a0 3 5).bind fun v_3 =>
      if (v_2 + x4) < v_3 then
        p2_tell_J43 a0 x1 x2 x3 x4 v_1 M
      else
        (getI M v_1 9 1).bind fun v_4 =>
        (putI M v_1 9 1 (maxI (-99) (v_4 - 1))).bind fun M_5 =>
        p2_tell_J43 a0 x1 x2 x3 x4 v_1 M_5)
abbrev rm2_endDay : Room := { frames := 1, cells := 0, slots := 0, locals := 32 }
def p2_endDay (a0 : Nat) (M : mMem) : Option mMem :=
  gd M a0 3 (
    (getI M a0 3 8).bind fun v_1 =>
    (putI M a0 3 8 (minI 9999 (v_1 + 1))).bind fun M_2 =>
    some M_2)
abbrev rm2_inCrib : Room := { frames := 1, cells := 0, slots := 0, locals := 21 }
def p2_inCrib_J33 (M : mMem) (rec4 : Nat → Int32 → Int32 → Option Int32) (a0 : Nat) (x1 : Int32) (x2 : Int32) : Option Int32 :=
  rec4 a0 x1 (x2 + 1)
def p2_inCrib_L4 (M : mMem) : Nat → Nat → Int32 → Int32 → Option Int32
  | 0, _, _, _ => none
  | n + 1, a0, x1, x2 =>
    (getI M a0 3 4).bind fun v_1 =>
    if x2 < v_1 then
      (p2_at a0 x2 M).bind fun v_2 =>
      (getI M v_2 9 0).bind fun v_3 =>
      (getI M a0 3 6).bind fun v_4 =>
      if v_3 < v_4 then
        p2_inCrib_J33 M (p2_inCrib_L4 M n) a0 (x1 ||| (1 <<< (x2 &&& 31))) x2
      else
        p2_inCrib_J33 M (p2_inCrib_L4 M n) a0 x1 x2
    else
      some x1
def p2_inCrib (a0 : Nat) (M : mMem) : Option Int32 :=
  gd M a0 3 (
    p2_inCrib_L4 M gF a0 0 0)
abbrev rm2_agesTogether : Room := { frames := 1, cells := 0, slots := 0, locals := 21 }
def p2_agesTogether_L4 (M : mMem) : Nat → Nat → Int32 → Int32 → Option Int32
  | 0, _, _, _ => none
  | n + 1, a0, x1, x2 =>
    (getI M a0 3 4).bind fun v_1 =>
    if x2 < v_1 then
      (p2_at a0 x2 M).bind fun v_2 =>
      (getI M v_2 9 0).bind fun v_3 =>
      (p2_agesTogether_L4 M n) a0 (x1 + v_3) (x2 + 1)
    else
      some x1
def p2_agesTogether (a0 : Nat) (M : mMem) : Option Int32 :=
  gd M a0 3 (
    p2_agesTogether_L4 M gF a0 0 0)
abbrev rm2_add : Room := { frames := 1, cells := 0, slots := 0, locals := 21 }
def p2_add (a0 : Nat) (x1 : Int32) (x2 : Int32) (x3 : Int32) (M : mMem) : Option (Int32 × mMem) :=
  gd M a0 3 (
    (getI M a0 3 4).bind fun v_1 =>
    (p2_at a0 v_1 M).bind fun v_2 =>
    (getR M a0 3 1).bind fun v_3 =>
    (p8_take v_2 v_3 M).bind fun q_4 =>
    (putI q_4 v_2 9 2 x1).bind fun M_5 =>
    (putI M_5 v_2 9 0 x2).bind fun M_6 =>
    (putI M_6 v_2 9 3 x3).bind fun M_7 =>
    (getI M_7 a0 3 4).bind fun v_8 =>
    (putI M_7 a0 3 4 (v_8 + 1)).bind fun M_9 =>
    (getI M_9 a0 3 4).bind fun v_10 =>
    some ((v_10 - 1), M_9))
abbrev rm2_gapOf : Room := { frames := 1, cells := 0, slots := 0, locals := 32 }
def p2_gapOf_J28 (M : mMem) (a0 : Nat) (u0 : Int32) : Option Int32 :=
  (getI M a0 3 5).bind fun v_1 =>
  some (minI u0 (v_1 - u0))
def p2_gapOf (a0 : Nat) (x1 : Int32) (x2 : Int32) (M : mMem) : Option Int32 :=
  gd M a0 3 (
    (p2_at a0 x1 M).bind fun v_1 =>
    (getI M v_1 9 0).bind fun v_2 =>
    (p2_at a0 x2 M).bind fun v_3 =>
    (getI M v_3 9 0).bind fun v_4 =>
    if (v_2 - v_4) < 0 then
      p2_gapOf_J28 M a0 (-(v_2 - v_4))
    else
      p2_gapOf_J28 M a0 (v_2 - v_4))
abbrev rm2_setGoverns : Room := { frames := 1, cells := 0, slots := 0, locals := 21 }
def p2_setGoverns_J55 (M : mMem) : Option mMem :=
  some M
def p2_setGoverns_J52 (b0 : Nat) (u1 : Int32) (M : mMem) : Option mMem :=
  (putI M b0 9 8 u1).bind fun M_1 =>
  p2_setGoverns_J55 M_1
def p2_setGoverns (a0 : Nat) (x1 : Int32) (x2 : Int32) (x3 : Int32) (M : mMem) : Option mMem :=
  gd M a0 3 (
    (p2_has a0 x1 M).bind fun v_1 =>
    if v_1 = 0 then
      p2_setGoverns_J55 M
    else
      (p2_has a0 x2 M).bind fun v_2 =>
      if v_2 = 0 then
        p2_setGoverns_J55 M
      else
        (p2_at a0 x2 M).bind fun v_3 =>
        if x3 = 0 then
          (getI M v_3 9 8).bind fun v_4 =>
          p2_setGoverns_J52 v_3 (v_4 &&& ((1 <<< (x1 &&& 31)) ^^^ (-1))) M
        else
          (getI M v_3 9 8).bind fun v_5 =>
          p2_setGoverns_J52 v_3 (v_5 ||| (1 <<< (x1 &&& 31))) M)
abbrev rm2_governedBy : Room := { frames := 2, cells := 0, slots := 0, locals := 43 }
def p2_governedBy_J27 (M : mMem) (rec4 : Nat → Int32 → Int32 → Int32 → Option Int32) (a0 : Nat) (x1 : Int32) (x2 : Int32) (x3 : Int32) : Option Int32 :=
  rec4 a0 x1 x2 (x3 + 1)
def p2_governedBy_L4 (M : mMem) : Nat → Nat → Int32 → Int32 → Int32 → Option Int32
  | 0, _, _, _, _ => none
  | n + 1, a0, x1, x2, x3 =>
    (getI M a0 3 4).bind fun v_1 =>
    if x3 < v_1 then
      (p2_governs a0 x1 x3 M).bind fun v_2 =>
      if v_2 = 0 then
        p2_governedBy_J27 M (p2_governedBy_L4 M n) a0 x1 x2 x3
      else
        p2_governedBy_J27 M (p2_governedBy_L4 M n) a0 x1 (x2 ||| (1 <<< (x3 &&& 31))) x3
    else
      some x2
def p2_governedBy (a0 : Nat) (x1 : Int32) (M : mMem) : Option Int32 :=
  gd M a0 3 (
    p2_governedBy_L4 M gF a0 x1 0 0)
abbrev rm2_areParentAndChild : Room := { frames := 1, cells := 0, slots := 0, locals := 21 }
def p2_areParentAndChild_J29 (M : mMem) (u0 : Int32) : Option Int32 :=
  (bZ u0).bind fun z => some z
def p2_areParentAndChild_J24 (M : mMem) : Option Int32 :=
  p2_areParentAndChild_J29 M 1
def p2_areParentAndChild (a0 : Nat) (x1 : Int32) (x2 : Int32) (M : mMem) : Option Int32 :=
  gd M a0 3 (
    (p2_at a0 x1 M).bind fun v_1 =>
    (getI M v_1 9 3).bind fun v_2 =>
    if v_2 = x2 then
      p2_areParentAndChild_J24 M
    else
      (p2_at a0 x2 M).bind fun v_3 =>
      (getI M v_3 9 3).bind fun v_4 =>
      if v_4 = x1 then
        p2_areParentAndChild_J24 M
      else
        p2_areParentAndChild_J29 M 0)
abbrev rm2_mayWed : Room := { frames := 2, cells := 0, slots := 0, locals := 43 }
def p2_mayWed_J57 (M : mMem) (u0 : Int32) : Option Int32 :=
  (bZ u0).bind fun z => some z
def p2_mayWed_J56 (M : mMem) : Option Int32 :=
  p2_mayWed_J57 M 0
def p2_mayWed (a0 : Nat) (x1 : Int32) (x2 : Int32) (M : mMem) : Option Int32 :=
  gd M a0 3 (
    (p2_at a0 x1 M).bind fun v_1 =>
    (getI M v_1 9 2).bind fun v_2 =>
    (p2_at a0 x2 M).bind fun v_3 =>
    (getI M v_3 9 2).bind fun v_4 =>
    if v_2 = v_4 then
      p2_mayWed_J56 M
    else
      (p2_at a0 x1 M).bind fun v_5 =>
      (getI M v_5 9 4).bind fun v_6 =>
      if v_6 = (-1) then
        (p2_at a0 x2 M).bind fun v_7 =>
        (getI M v_7 9 4).bind fun v_8 =>
        if v_8 = (-1) then
          (p2_areParentAndChild a0 x1 x2 M).bind fun v_9 =>
          if v_9 = 0 then
            p2_mayWed_J57 M 1
          else
            p2_mayWed_J56 M
        else
          p2_mayWed_J56 M
      else
        p2_mayWed_J56 M)
abbrev rm2_join : Room := { frames := 1, cells := 0, slots := 0, locals := 21 }
def p2_join (a0 : Nat) (x1 : Int32) (x2 : Int32) (M : mMem) : Option mMem :=
  gd M a0 3 (
    (p2_at a0 x1 M).bind fun v_1 =>
    (putI M v_1 9 4 x2).bind fun M_2 =>
    (p2_at a0 x2 M_2).bind fun v_3 =>
    (putI M_2 v_3 9 4 x1).bind fun M_4 =>
    some M_4)
abbrev rm2_lentBy : Room := { frames := 1, cells := 0, slots := 0, locals := 21 }
def p2_lentBy_J31 (M : mMem) (u0 : Int32) : Option Int32 :=
  some u0
def p2_lentBy_J30 (M : mMem) : Option Int32 :=
  p2_lentBy_J31 M 0
def p2_lentBy (a0 : Nat) (x1 : Int32) (x2 : Int32) (M : mMem) : Option Int32 :=
  gd M a0 3 (
    (p2_has a0 x1 M).bind fun v_1 =>
    if v_1 = 0 then
      p2_lentBy_J30 M
    else
      (p2_has a0 x2 M).bind fun v_2 =>
      if v_2 = 0 then
        p2_lentBy_J30 M
      else
        (getR M a0 3 2).bind fun v_3 =>
        (aldI M v_3 20 ((x1 * 8) + x2)).bind fun v_4 =>
        p2_lentBy_J31 M v_4)
abbrev rm2_lendOne : Room := { frames := 1, cells := 0, slots := 0, locals := 21 }
def p2_lendOne_J59 (M : mMem) : Option mMem :=
  some M
def p2_lendOne (a0 : Nat) (x1 : Int32) (x2 : Int32) (M : mMem) : Option mMem :=
  gd M a0 3 (
    (p2_has a0 x1 M).bind fun v_1 =>
    if v_1 = 0 then
      p2_lendOne_J59 M
    else
      (p2_has a0 x2 M).bind fun v_2 =>
      if v_2 = 0 then
        p2_lendOne_J59 M
      else
        (getR M a0 3 2).bind fun v_3 =>
        (aldI M v_3 20 ((x1 * 8) + x2)).bind fun v_4 =>
        (astI M v_3 ((x1 * 8) + x2) (v_4 + 1)).bind fun M_5 =>
        (p2_at a0 x1 M_5).bind fun v_6 =>
        (getI M_5 v_6 9 7).bind fun v_7 =>
        (putI M_5 v_6 9 7 (v_7 - 1)).bind fun M_8 =>
        (p2_at a0 x2 M_8).bind fun v_9 =>
        (getI M_8 v_9 9 7).bind fun v_10 =>
        (putI M_8 v_9 9 7 (v_10 + 1)).bind fun M_11 =>
        p2_lendOne_J59 M_11)
abbrev rm2_turnsTogether : Room := { frames := 1, cells := 0, slots := 0, locals := 21 }
def p2_turnsTogether_L4 (M : mMem) : Nat → Nat → Int32 → Int32 → Option Int32
  | 0, _, _, _ => none
  | n + 1, a0, x1, x2 =>
    (getI M a0 3 4).bind fun v_1 =>
    if x2 < v_1 then
      (p2_at a0 x2 M).bind fun v_2 =>
      (getI M v_2 9 1).bind fun v_3 =>
      (p2_turnsTogether_L4 M n) a0 (x1 + v_3) (x2 + 1)
    else
      some x1
def p2_turnsTogether (a0 : Nat) (M : mMem) : Option Int32 :=
  gd M a0 3 (
    p2_turnsTogether_L4 M gF a0 0 0)
abbrev rm2_boys : Room := { frames := 1, cells := 0, slots := 0, locals := 21 }
def p2_boys_J29 (M : mMem) (rec4 : Nat → Int32 → Int32 → Option Int32) (a0 : Nat) (x1 : Int32) (x2 : Int32) : Option Int32 :=
  rec4 a0 x1 (x2 + 1)
def p2_boys_L4 (M : mMem) : Nat → Nat → Int32 → Int32 → Option Int32
  | 0, _, _, _ => none
  | n + 1, a0, x1, x2 =>
    (getI M a0 3 4).bind fun v_1 =>
    if x2 < v_1 then
      (p2_at a0 x2 M).bind fun v_2 =>
      (getI M v_2 9 2).bind fun v_3 =>
      if v_3 = 0 then
        p2_boys_J29 M (p2_boys_L4 M n) a0 (x1 ||| (1 <<< (x2 &&& 31))) x2
      else
        p2_boys_J29 M (p2_boys_L4 M n) a0 x1 x2
    else
      some x1
def p2_boys (a0 : Nat) (M : mMem) : Option Int32 :=
  gd M a0 3 (
    p2_boys_L4 M gF a0 0 0)
abbrev rm2_wedded : Room := { frames := 1, cells := 0, slots := 0, locals := 21 }
def p2_wedded_J30 (M : mMem) (rec4 : Nat → Int32 → Int32 → Option Int32) (a0 : Nat) (x1 : Int32) (x2 : Int32) : Option Int32 :=
  rec4 a0 x1 (x2 + 1)
def p2_wedded_L4 (M : mMem) : Nat → Nat → Int32 → Int32 → Option Int32
  | 0, _, _, _ => none
  | n + 1, a0, x1, x2 =>
    (getI M a0 3 4).bind fun v_1 =>
    if x2 < v_1 then
      (p2_at a0 x2 M).bind fun v_2 =>
      (getI M v_2 9 4).bind fun v_3 =>
      if v_3 = (-1) then
        p2_wedded_J30 M (p2_wedded_L4 M n) a0 x1 x2
      else
        p2_wedded_J30 M (p2_wedded_L4 M n) a0 (x1 ||| (1 <<< (x2 &&& 31))) x2
    else
      some x1
def p2_wedded (a0 : Nat) (M : mMem) : Option Int32 :=
  gd M a0 3 (
    p2_wedded_L4 M gF a0 0 0)
abbrev rm6_cell : Room := { frames := 0, cells := 0, slots := 0, locals := 0 }
def p6_cell_J21 (M : mMem) : Option Int32 :=
  some (-1)
def p6_cell_J76 (M : mMem) (u0 : Int32) : Option Int32 :=
  some u0
def p6_cell_J75 (M : mMem) : Option Int32 :=
  p6_cell_J76 M (-1)
def p6_cell_J44 (M : mMem) (a0 : Nat) (x2 : Int32) (u0 : Int32) : Option Int32 :=
  if ((u0 * 5) + x2) < 0 then
    p6_cell_J75 M
  else
    (getR M a0 7 0).bind fun v_1 =>
    (lenA M v_1).bind fun v_2 =>
    if ((u0 * 5) + x2) < v_2 then
      (getR M a0 7 0).bind fun v_3 =>
      (aldI M v_3 20 ((u0 * 5) + x2)).bind fun v_4 =>
      p6_cell_J76 M v_4
    else
      p6_cell_J75 M
def p6_cell (a0 : Nat) (x1 : Int32) (x2 : Int32) (M : mMem) : Option Int32 :=
  gd M a0 7 (
    if x1 < 0 then
      p6_cell_J21 M
    else
      (getI M a0 7 2).bind fun v_1 =>
      if x1 < v_1 then
        if x2 < 0 then
          p6_cell_J21 M
        else
          if x2 < 5 then
            (getI M a0 7 1).bind fun v_2 =>
            if ((v_2 - 1) - x1) < 0 then
              p6_cell_J44 M a0 x2 (((v_2 - 1) - x1) + 60)
            else
              p6_cell_J44 M a0 x2 ((v_2 - 1) - x1)
          else
            p6_cell_J21 M
      else
        p6_cell_J21 M)
abbrev rm6_shareOf : Room := { frames := 1, cells := 0, slots := 0, locals := 24 }
def p6_shareOf_J48 (M : mMem) (rec7 : Nat → Int32 → Int32 → Int32 → Int32 → Option Int32) (a0 : Nat) (x1 : Int32) (x2 : Int32) (x3 : Int32) (x4 : Int32) : Option Int32 :=
  rec7 a0 x1 x2 x3 (x4 + 1)
def p6_shareOf_J46 (M : mMem) (rec7 : Nat → Int32 → Int32 → Int32 → Int32 → Option Int32) (a0 : Nat) (x1 : Int32) (x2 : Int32) (x4 : Int32) (u0 : Int32) (u1 : Int32) : Option Int32 :=
  p6_shareOf_J48 M rec7 a0 x1 x2 (u0 + u1) x4
def p6_shareOf_L7 (M : mMem) (k54 : Int32 → Int32 → Option Int32) : Nat → Nat → Int32 → Int32 → Int32 → Int32 → Option Int32
  | 0, _, _, _, _, _ => none
  | n + 1, a0, x1, x2, x3, x4 =>
    (getI M a0 7 2).bind fun v_1 =>
    if x4 < v_1 then
      (p6_cell a0 x4 3 M).bind fun v_2 =>
      if v_2 = 0 then
        (p6_cell a0 x4 2 M).bind fun v_3 =>
        if v_3 = x1 then
          p6_shareOf_J46 M (p6_shareOf_L7 M k54 n) a0 x1 (x2 + 1) x4 x3 1
        else
          p6_shareOf_J46 M (p6_shareOf_L7 M k54 n) a0 x1 (x2 + 1) x4 x3 0
      else
        p6_shareOf_J48 M (p6_shareOf_L7 M k54 n) a0 x1 x2 x3 x4
    else
      k54 x2 x3
def p6_shareOf_J68 (M : mMem) (u0 : Int32) : Option Int32 :=
  some u0
def p6_shareOf_J54 (M : mMem) (x2 : Int32) (x3 : Int32) : Option Int32 :=
  if 0 < x2 then
    (divI (100 * x3) x2).bind fun v_1 =>
    p6_shareOf_J68 M v_1
  else
    p6_shareOf_J68 M 0
def p6_shareOf (a0 : Nat) (x1 : Int32) (M : mMem) : Option Int32 :=
  gd M a0 7 (
    p6_shareOf_L7 M (p6_shareOf_J54 M) gF a0 x1 0 0 0)
abbrev rm6_rowsTo : Room := { frames := 1, cells := 0, slots := 0, locals := 24 }
def p6_rowsTo_J25 (M : mMem) (rec4 : Nat → Int32 → Int32 → Int32 → Option Int32) (a0 : Nat) (x1 : Int32) (x2 : Int32) (x3 : Int32) : Option Int32 :=
  rec4 a0 x1 x2 (x3 + 1)
def p6_rowsTo_L4 (M : mMem) : Nat → Nat → Int32 → Int32 → Int32 → Option Int32
  | 0, _, _, _, _ => none
  | n + 1, a0, x1, x2, x3 =>
    (getI M a0 7 2).bind fun v_1 =>
    if x3 < v_1 then
      (p6_cell a0 x3 2 M).bind fun v_2 =>
      if v_2 = x1 then
        p6_rowsTo_J25 M (p6_rowsTo_L4 M n) a0 x1 (x2 + 1) x3
      else
        p6_rowsTo_J25 M (p6_rowsTo_L4 M n) a0 x1 x2 x3
    else
      some x2
def p6_rowsTo (a0 : Nat) (x1 : Int32) (M : mMem) : Option Int32 :=
  gd M a0 7 (
    p6_rowsTo_L4 M gF a0 x1 0 0)
abbrev rm6_latestDayTo : Room := { frames := 1, cells := 0, slots := 0, locals := 24 }
def p6_latestDayTo_L2 (M : mMem) : Nat → Nat → Int32 → Int32 → Option Int32
  | 0, _, _, _ => none
  | n + 1, a0, x1, x2 =>
    (getI M a0 7 2).bind fun v_1 =>
    if x2 < v_1 then
      (p6_cell a0 x2 2 M).bind fun v_2 =>
      if v_2 = x1 then
        (p6_cell a0 x2 0 M).bind fun v_3 =>
        some v_3
      else
        (p6_latestDayTo_L2 M n) a0 x1 (x2 + 1)
    else
      some (-1)
def p6_latestDayTo (a0 : Nat) (x1 : Int32) (M : mMem) : Option Int32 :=
  gd M a0 7 (
    p6_latestDayTo_L2 M gF a0 x1 0)
