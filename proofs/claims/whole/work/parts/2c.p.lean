abbrev rm2_setGoverns : Room := { frames := 1, cells := 0, slots := 0, locals := 21 }
def p2_setGoverns_J55 (M : mMem) : Option mMem :=
  some M
def p2_setGoverns_J52 (b0 : Nat) (u1 : Int32) (M : mMem) : Option mMem :=
  (putI M b0 9 8 u1).bind fun M_1 =>
  p2_setGoverns_J55 M_1
def p2_setGoverns (a0 : Nat) (x1 : Int32) (x2 : Int32) (x3 : Int32) (M : mMem) : Option mMem :=
  gd M a0 3 (
    (p2_has a0 x1 M).bind fun v_1 =>
    if v_1 = 0 then
      p2_setGoverns_J55 M
    else
      (p2_has a0 x2 M).bind fun v_2 =>
      if v_2 = 0 then
        p2_setGoverns_J55 M
      else
        (p2_at a0 x2 M).bind fun v_3 =>
        if x3 = 0 then
          (getI M v_3 9 8).bind fun v_4 =>
          p2_setGoverns_J52 v_3 (v_4 &&& (((1 : Int32) <<< (x1 &&& 31)) ^^^ (-1))) M
        else
          (getI M v_3 9 8).bind fun v_5 =>
          p2_setGoverns_J52 v_3 (v_5 ||| ((1 : Int32) <<< (x1 &&& 31))) M)
abbrev rm2_governedBy : Room := { frames := 2, cells := 0, slots := 0, locals := 43 }
def p2_governedBy_J27 (M : mMem) (rec4 : Nat → Int32 → Int32 → Int32 → Option Int32) (a0 : Nat) (x1 : Int32) (x2 : Int32) (x3 : Int32) : Option Int32 :=
  rec4 a0 x1 x2 (x3 + 1)
def p2_governedBy_L4 (M : mMem) : Nat → Nat → Int32 → Int32 → Int32 → Option Int32
  | 0, _, _, _, _ => none
  | n + 1, a0, x1, x2, x3 =>
    (getI M a0 3 4).bind fun v_1 =>
    if x3 < v_1 then
      (p2_governs a0 x1 x3 M).bind fun v_2 =>
      if v_2 = 0 then
        p2_governedBy_J27 M (p2_governedBy_L4 M n) a0 x1 x2 x3
      else
        p2_governedBy_J27 M (p2_governedBy_L4 M n) a0 x1 (x2 ||| ((1 : Int32) <<< (x3 &&& 31))) x3
    else
      some x2
def p2_governedBy (a0 : Nat) (x1 : Int32) (M : mMem) : Option Int32 :=
  gd M a0 3 (
    p2_governedBy_L4 M gF a0 x1 0 0)
abbrev rm2_areParentAndChild : Room := { frames := 1, cells := 0, slots := 0, locals := 21 }
def p2_areParentAndChild_J29 (M : mMem) (u0 : Int32) : Option Int32 :=
  (bZ u0).bind fun z => some z
def p2_areParentAndChild_J24 (M : mMem) : Option Int32 :=
  p2_areParentAndChild_J29 M 1
def p2_areParentAndChild (a0 : Nat) (x1 : Int32) (x2 : Int32) (M : mMem) : Option Int32 :=
  gd M a0 3 (
    (p2_at a0 x1 M).bind fun v_1 =>
    (getI M v_1 9 3).bind fun v_2 =>
    if v_2 = x2 then
      p2_areParentAndChild_J24 M
    else
      (p2_at a0 x2 M).bind fun v_3 =>
      (getI M v_3 9 3).bind fun v_4 =>
      if v_4 = x1 then
        p2_areParentAndChild_J24 M
      else
        p2_areParentAndChild_J29 M 0)
abbrev rm2_mayWed : Room := { frames := 2, cells := 0, slots := 0, locals := 43 }
def p2_mayWed_J57 (M : mMem) (u0 : Int32) : Option Int32 :=
  (bZ u0).bind fun z => some z
def p2_mayWed_J56 (M : mMem) : Option Int32 :=
  p2_mayWed_J57 M 0
def p2_mayWed (a0 : Nat) (x1 : Int32) (x2 : Int32) (M : mMem) : Option Int32 :=
  gd M a0 3 (
    (p2_at a0 x1 M).bind fun v_1 =>
    (getI M v_1 9 2).bind fun v_2 =>
    (p2_at a0 x2 M).bind fun v_3 =>
    (getI M v_3 9 2).bind fun v_4 =>
    if v_2 = v_4 then
      p2_mayWed_J56 M
    else
      (p2_at a0 x1 M).bind fun v_5 =>
      (getI M v_5 9 4).bind fun v_6 =>
      if v_6 = (-1) then
        (p2_at a0 x2 M).bind fun v_7 =>
        (getI M v_7 9 4).bind fun v_8 =>
        if v_8 = (-1) then
          (p2_areParentAndChild a0 x1 x2 M).bind fun v_9 =>
          if v_9 = 0 then
            p2_mayWed_J57 M 1
          else
            p2_mayWed_J56 M
        else
          p2_mayWed_J56 M
      else
        p2_mayWed_J56 M)
abbrev rm2_join : Room := { frames := 1, cells := 0, slots := 0, locals := 21 }
def p2_join (a0 : Nat) (x1 : Int32) (x2 : Int32) (M : mMem) : Option mMem :=
  gd M a0 3 (
    (p2_at a0 x1 M).bind fun v_1 =>
    (putI M v_1 9 4 x2).bind fun M_2 =>
    (p2_at a0 x2 M_2).bind fun v_3 =>
    (putI M_2 v_3 9 4 x1).bind fun M_4 =>
    some M_4)
abbrev rm2_lentBy : Room := { frames := 1, cells := 0, slots := 0, locals := 21 }
def p2_lentBy_J31 (M : mMem) (u0 : Int32) : Option Int32 :=
  some u0
def p2_lentBy_J30 (M : mMem) : Option Int32 :=
  p2_lentBy_J31 M 0
def p2_lentBy (a0 : Nat) (x1 : Int32) (x2 : Int32) (M : mMem) : Option Int32 :=
  gd M a0 3 (
    (p2_has a0 x1 M).bind fun v_1 =>
    if v_1 = 0 then
      p2_lentBy_J30 M
    else
      (p2_has a0 x2 M).bind fun v_2 =>
      if v_2 = 0 then
        p2_lentBy_J30 M
      else
        (getR M a0 3 2).bind fun v_3 =>
        (aldI M v_3 20 ((x1 * 8) + x2)).bind fun v_4 =>
        p2_lentBy_J31 M v_4)
abbrev rm2_lendOne : Room := { frames := 1, cells := 0, slots := 0, locals := 21 }
def p2_lendOne_J59 (M : mMem) : Option mMem :=
  some M
def p2_lendOne (a0 : Nat) (x1 : Int32) (x2 : Int32) (M : mMem) : Option mMem :=
  gd M a0 3 (
    (p2_has a0 x1 M).bind fun v_1 =>
    if v_1 = 0 then
      p2_lendOne_J59 M
    else
      (p2_has a0 x2 M).bind fun v_2 =>
      if v_2 = 0 then
        p2_lendOne_J59 M
      else
        (getR M a0 3 2).bind fun v_3 =>
        (aldI M v_3 20 ((x1 * 8) + x2)).bind fun v_4 =>
        (astI M v_3 ((x1 * 8) + x2) (v_4 + 1)).bind fun M_5 =>
        (p2_at a0 x1 M_5).bind fun v_6 =>
        (getI M_5 v_6 9 7).bind fun v_7 =>
        (putI M_5 v_6 9 7 (v_7 - 1)).bind fun M_8 =>
        (p2_at a0 x2 M_8).bind fun v_9 =>
        (getI M_8 v_9 9 7).bind fun v_10 =>
        (putI M_8 v_9 9 7 (v_10 + 1)).bind fun M_11 =>
        p2_lendOne_J59 M_11)
abbrev rm2_turnsTogether : Room := { frames := 1, cells := 0, slots := 0, locals := 21 }
def p2_turnsTogether_L4 (M : mMem) : Nat → Nat → Int32 → Int32 → Option Int32
  | 0, _, _, _ => none
  | n + 1, a0, x1, x2 =>
    (getI M a0 3 4).bind fun v_1 =>
    if x2 < v_1 then
      (p2_at a0 x2 M).bind fun v_2 =>
      (getI M v_2 9 1).bind fun v_3 =>
      (p2_turnsTogether_L4 M n) a0 (x1 + v_3) (x2 + 1)
    else
      some x1
def p2_turnsTogether (a0 : Nat) (M : mMem) : Option Int32 :=
  gd M a0 3 (
    p2_turnsTogether_L4 M gF a0 0 0)
abbrev rm2_boys : Room := { frames := 1, cells := 0, slots := 0, locals := 21 }
def p2_boys_J29 (M : mMem) (rec4 : Nat → Int32 → Int32 → Option Int32) (a0 : Nat) (x1 : Int32) (x2 : Int32) : Option Int32 :=
  rec4 a0 x1 (x2 + 1)
def p2_boys_L4 (M : mMem) : Nat → Nat → Int32 → Int32 → Option Int32
  | 0, _, _, _ => none
  | n + 1, a0, x1, x2 =>
    (getI M a0 3 4).bind fun v_1 =>
    if x2 < v_1 then
      (p2_at a0 x2 M).bind fun v_2 =>
      (getI M v_2 9 2).bind fun v_3 =>
      if v_3 = 0 then
        p2_boys_J29 M (p2_boys_L4 M n) a0 (x1 ||| ((1 : Int32) <<< (x2 &&& 31))) x2
      else
        p2_boys_J29 M (p2_boys_L4 M n) a0 x1 x2
    else
      some x1
def p2_boys (a0 : Nat) (M : mMem) : Option Int32 :=
  gd M a0 3 (
    p2_boys_L4 M gF a0 0 0)
abbrev rm2_wedded : Room := { frames := 1, cells := 0, slots := 0, locals := 21 }
def p2_wedded_J30 (M : mMem) (rec4 : Nat → Int32 → Int32 → Option Int32) (a0 : Nat) (x1 : Int32) (x2 : Int32) : Option Int32 :=
  rec4 a0 x1 (x2 + 1)
def p2_wedded_L4 (M : mMem) : Nat → Nat → Int32 → Int32 → Option Int32
  | 0, _, _, _ => none
  | n + 1, a0, x1, x2 =>
    (getI M a0 3 4).bind fun v_1 =>
    if x2 < v_1 then
      (p2_at a0 x2 M).bind fun v_2 =>
      (getI M v_2 9 4).bind fun v_3 =>
      if v_3 = (-1) then
        p2_wedded_J30 M (p2_wedded_L4 M n) a0 x1 x2
      else
        p2_wedded_J30 M (p2_wedded_L4 M n) a0 (x1 ||| ((1 : Int32) <<< (x2 &&& 31))) x2
    else
      some x1
def p2_wedded (a0 : Nat) (M : mMem) : Option Int32 :=
  gd M a0 3 (
    p2_wedded_L4 M gF a0 0 0)
abbrev rm3_sinit : Room := { frames := 1, cells := 3, slots := 1200, locals := 32 }
def p3_sinit (a0 : Nat) (x1 : Int32) (M : mMem) : Option mMem :=
  gd M a0 4 (
    (newC M 20 400).bind fun n_1 =>
    (putR n_1.2 a0 4 0 n_1.1).bind fun M_2 =>
    (newC M_2 20 400).bind fun n_3 =>
    (putR n_3.2 a0 4 1 n_3.1).bind fun M_4 =>
    (newC M_4 20 400).bind fun n_5 =>
    (putR n_5.2 a0 4 2 n_5.1).bind fun M_6 =>
    (putI M_6 a0 4 4 0).bind fun M_7 =>
    (putI M_7 a0 4 5 0).bind fun M_8 =>
    (putI M_8 a0 4 6 0).bind fun M_9 =>
    (putI M_9 a0 4 7 0).bind fun M_10 =>
    (putI M_10 a0 4 3 x1).bind fun M_11 =>
    some M_11)
abbrev rm3_init : Room := { frames := 2, cells := 3, slots := 1200, locals := 53 }
def p3_init (a0 : Nat) (a1 : Nat) (M : mMem) : Option mMem :=
  gd M a0 4 (
    (p3_sinit a0 14 M).bind fun q_1 =>
    (putR q_1 a0 4 8 a1).bind fun M_2 =>
    some M_2)
abbrev rm3_next : Room := { frames := 0, cells := 0, slots := 0, locals := 0 }
def p3_next_J43 (M : mMem) (u0 : Int32) : Option Int32 :=
  some u0
def p3_next_J42 (M : mMem) : Option Int32 :=
  p3_next_J43 M 1
def p3_next (a0 : Nat) (M : mMem) : Option Int32 :=
  gd M a0 4 (
    (getI M a0 4 6).bind fun v_1 =>
    if v_1 < 0 then
      p3_next_J42 M
    else
      (getI M a0 4 6).bind fun v_2 =>
      (getI M a0 4 4).bind fun v_3 =>
      if v_2 < v_3 then
        (getI M a0 4 6).bind fun v_4 =>
        (getR M a0 4 0).bind fun v_5 =>
        (lenA M v_5).bind fun v_6 =>
        if v_4 < v_6 then
          (getR M a0 4 0).bind fun v_7 =>
          (getI M a0 4 6).bind fun v_8 =>
          (aldI M v_7 20 v_8).bind fun v_9 =>
          p3_next_J43 M v_9
        else
          p3_next_J42 M
      else
        p3_next_J42 M)
abbrev rm3_took : Room := { frames := 1, cells := 0, slots := 0, locals := 20 }
def p3_took (a0 : Nat) (x1 : Int32) (M : mMem) : Option (Int32 × mMem) :=
  gd M a0 4 (
    (p3_next a0 M).bind fun v_1 =>
    if v_1 = x1 then
      (getI M a0 4 6).bind fun v_2 =>
      (putI M a0 4 6 (v_2 + 1)).bind fun M_3 =>
      some (1, M_3)
    else
      some (0, M))
abbrev rm3_numberOfNext : Room := { frames := 0, cells := 0, slots := 0, locals := 0 }
def p3_numberOfNext_J43 (M : mMem) (u0 : Int32) : Option Int32 :=
  some u0
def p3_numberOfNext_J42 (M : mMem) : Option Int32 :=
  p3_numberOfNext_J43 M 0
def p3_numberOfNext (a0 : Nat) (M : mMem) : Option Int32 :=
  gd M a0 4 (
    (getI M a0 4 6).bind fun v_1 =>
    if v_1 < 0 then
      p3_numberOfNext_J42 M
    else
      (getI M a0 4 6).bind fun v_2 =>
      (getI M a0 4 4).bind fun v_3 =>
      if v_2 < v_3 then
        (getI M a0 4 6).bind fun v_4 =>
        (getR M a0 4 2).bind fun v_5 =>
        (lenA M v_5).bind fun v_6 =>
        if v_4 < v_6 then
          (getR M a0 4 2).bind fun v_7 =>
          (getI M a0 4 6).bind fun v_8 =>
          (aldI M v_7 20 v_8).bind fun v_9 =>
          p3_numberOfNext_J43 M v_9
        else
          p3_numberOfNext_J42 M
      else
        p3_numberOfNext_J42 M)
abbrev rm3_tookNumber : Room := { frames := 1, cells := 0, slots := 0, locals := 20 }
def p3_tookNumber_J23 (M : mMem) : Option (Int32 × mMem) :=
  some (0, M)
def p3_tookNumber (a0 : Nat) (x1 : Int32) (x2 : Int32) (M : mMem) : Option (Int32 × mMem) :=
  gd M a0 4 (
    (p3_numberOfNext a0 M).bind fun v_1 =>
    (p3_next a0 M).bind fun v_2 =>
    if v_2 = 2 then
      if v_1 < x1 then
        p3_tookNumber_J23 M
      else
        if x2 < v_1 then
          p3_tookNumber_J23 M
        else
          (putI M a0 4 7 v_1).bind fun M_3 =>
          (getI M_3 a0 4 6).bind fun v_4 =>
          (putI M_3 a0 4 6 (v_4 + 1)).bind fun M_5 =>
          some (1, M_5)
    else
      p3_tookNumber_J23 M)
abbrev rm3_tookPerson : Room := { frames := 2, cells := 0, slots := 0, locals := 43 }
def p3_tookPerson (a0 : Nat) (M : mMem) : Option (Int32 × mMem) :=
  gd M a0 4 (
    (getR M a0 4 8).bind fun v_1 =>
    (getI M v_1 3 4).bind fun v_2 =>
    (p3_tookNumber a0 0 (v_2 - 1) M).bind fun q_3 =>
    (bZ q_3.1).bind fun z => some (z, q_3.2))
abbrev rm3_readRest : Room := { frames := 2, cells := 0, slots := 0, locals := 43 }
def p3_readRest_J87 (M : mMem) : Option (Int32 × mMem) :=
  some (1, M)
def p3_readRest_J58 (a0 : Nat) (a1 : Nat) (M : mMem) : Option (Int32 × mMem) :=
  (p3_took a0 10 M).bind fun q_1 =>
  if q_1.1 = 0 then
    p3_readRest_J87 q_1.2
  else
    (p3_tookNumber a0 0 9 q_1.2).bind fun q_2 =>
    if q_2.1 = 0 then
      some (0, q_2.2)
    else
      (getI q_2.2 a0 4 7).bind fun v_3 =>
      (putI q_2.2 a1 9 7 v_3).bind fun M_4 =>
      p3_readRest_J87 M_4
def p3_readRest_J29 (a0 : Nat) (a1 : Nat) (M : mMem) : Option (Int32 × mMem) :=
  (p3_took a0 9 M).bind fun q_1 =>
  if q_1.1 = 0 then
    p3_readRest_J58 a0 a1 q_1.2
  else
    (p3_tookNumber a0 0 100 q_1.2).bind fun q_2 =>
    if q_2.1 = 0 then
      some (0, q_2.2)
    else
      (getI q_2.2 a0 4 7).bind fun v_3 =>
      (putI q_2.2 a1 9 6 v_3).bind fun M_4 =>
      p3_readRest_J58 a0 a1 M_4
def p3_readRest (a0 : Nat) (a1 : Nat) (M : mMem) : Option (Int32 × mMem) :=
  gd M a0 4 (
    (p3_took a0 8 M).bind fun q_1 =>
    if q_1.1 = 0 then
      p3_readRest_J29 a0 a1 q_1.2
    else
      (p3_tookNumber a0 0 100 q_1.2).bind fun q_2 =>
      if q_2.1 = 0 then
        some (0, q_2.2)
      else
        (getI q_2.2 a0 4 7).bind fun v_3 =>
        (putI q_2.2 a1 9 5 v_3).bind fun M_4 =>
        p3_readRest_J29 a0 a1 M_4)
abbrev rm3_readPerson : Room := { frames := 3, cells := 0, slots := 0, locals := 64 }
def p3_readPerson_J68 (M : mMem) : Option (Int32 × mMem) :=
  some (0, M)
def p3_readPerson_J118 (x2 : Int32) (x3 : Int32) (b0 : Nat) (b1 : Nat) (b2 : Nat) (u3 : Int32) (M : mMem) : Option (Int32 × mMem) :=
  (p2_add b2 u3 x2 x3 M).bind fun q_1 =>
  (p2_at b1 q_1.1 q_1.2).bind fun v_2 =>
  (p3_readRest b0 v_2 q_1.2).bind fun q_3 =>
  (bZ q_3.1).bind fun z => some (z, q_3.2)
def p3_readPerson_J100 (a0 : Nat) (x1 : Int32) (x2 : Int32) (x3 : Int32) (M : mMem) : Option (Int32 × mMem) :=
  (getR M a0 4 8).bind fun v_1 =>
  (getR M a0 4 8).bind fun v_2 =>
  if x1 = 0 then
    p3_readPerson_J118 x2 x3 a0 v_1 v_2 1 M
  else
    p3_readPerson_J118 x2 x3 a0 v_1 v_2 0 M
def p3_readPerson_J42 (a0 : Nat) (x1 : Int32) (M : mMem) : Option (Int32 × mMem) :=
  (p3_took a0 6 M).bind fun q_1 =>
  if q_1.1 = 0 then
    p3_readPerson_J68 q_1.2
  else
    (getR q_1.2 a0 4 8).bind fun v_2 =>
    (getI q_1.2 v_2 3 5).bind fun v_3 =>
    (p3_tookNumber a0 0 (v_3 - 1) q_1.2).bind fun q_4 =>
    if q_4.1 = 0 then
      p3_readPerson_J68 q_4.2
    else
      (getI q_4.2 a0 4 7).bind fun v_5 =>
      (p3_took a0 7 q_4.2).bind fun q_6 =>
      if q_6.1 = 0 then
        p3_readPerson_J100 a0 x1 v_5 (-1) q_6.2
      else
        (p3_tookPerson a0 q_6.2).bind fun q_7 =>
        if q_7.1 = 0 then
          some (0, q_7.2)
        else
          (getI q_7.2 a0 4 7).bind fun v_8 =>
          p3_readPerson_J100 a0 x1 v_5 v_8 q_7.2
def p3_readPerson (a0 : Nat) (M : mMem) : Option (Int32 × mMem) :=
  gd M a0 4 (
    (getR M a0 4 8).bind fun v_1 =>
    (getI M v_1 3 4).bind fun v_2 =>
    if v_2 < 8 then
      (getI M a0 4 6).bind fun v_3 =>
      (putI M a0 4 6 (v_3 + 1)).bind fun M_4 =>
      (p3_took a0 4 M_4).bind fun q_5 =>
      if q_5.1 = 0 then
        (p3_took a0 5 q_5.2).bind fun q_6 =>
        if q_6.1 = 0 then
          p3_readPerson_J68 q_6.2
        else
          p3_readPerson_J42 a0 q_5.1 q_6.2
      else
        p3_readPerson_J42 a0 q_5.1 q_5.2
    else
      some (0, M))
abbrev rm3_readGoverns : Room := { frames := 3, cells := 0, slots := 0, locals := 63 }
def p3_readGoverns (a0 : Nat) (M : mMem) : Option (Int32 × mMem) :=
  gd M a0 4 (
    (getI M a0 4 6).bind fun v_1 =>
    (putI M a0 4 6 (v_1 + 1)).bind fun M_2 =>
    (p3_tookPerson a0 M_2).bind fun q_3 =>
    if q_3.1 = 0 then
      some (0, q_3.2)
    else
      (getI q_3.2 a0 4 7).bind fun v_4 =>
      (p3_tookPerson a0 q_3.2).bind fun q_5 =>
      if q_5.1 = 0 then
        some (0, q_5.2)
      else
        (getI q_5.2 a0 4 7).bind fun v_6 =>
        if v_6 = v_4 then
          (getI q_5.2 a0 4 6).bind fun v_10 =>
          (putI q_5.2 a0 4 6 (v_10 - 1)).bind fun M_11 =>
          some (0, M_11)
        else
          (getR q_5.2 a0 4 8).bind fun v_7 =>
          (getI q_5.2 a0 4 7).bind fun v_8 =>
          (p2_setGoverns v_7 v_4 v_8 1 q_5.2).bind fun q_9 =>
          some (1, q_9))
abbrev rm3_readWed : Room := { frames := 3, cells := 0, slots := 0, locals := 65 }
def p3_readWed (a0 : Nat) (M : mMem) : Option (Int32 × mMem) :=
  gd M a0 4 (
    (getI M a0 4 6).bind fun v_1 =>
    (putI M a0 4 6 (v_1 + 1)).bind fun M_2 =>
    (p3_tookPerson a0 M_2).bind fun q_3 =>
    if q_3.1 = 0 then
      some (0, q_3.2)
    else
      (getI q_3.2 a0 4 7).bind fun v_4 =>
      (p3_tookPerson a0 q_3.2).bind fun q_5 =>
      if q_5.1 = 0 then
        some (0, q_5.2)
      else
        (getR q_5.2 a0 4 8).bind fun v_6 =>
        (getI q_5.2 a0 4 7).bind fun v_7 =>
        (p2_mayWed v_6 v_4 v_7 q_5.2).bind fun v_8 =>
        if v_8 = 0 then
          (getI q_5.2 a0 4 6).bind fun v_12 =>
          (putI q_5.2 a0 4 6 (v_12 - 1)).bind fun M_13 =>
          some (0, M_13)
        else
          (getR q_5.2 a0 4 8).bind fun v_9 =>
          (getI q_5.2 a0 4 7).bind fun v_10 =>
          (p2_join v_9 v_4 v_10 q_5.2).bind fun q_11 =>
          some (1, q_11))
abbrev rm3_readRound : Room := { frames := 2, cells := 0, slots := 0, locals := 43 }
def p3_readRound_L14 (k49 : Nat → Int32 → mMem → Option (Int32 × mMem)) : Nat → Nat → Int32 → Int32 → mMem → Option (Int32 × mMem)
  | 0, _, _, _, _ => none
  | n + 1, a0, x1, x2, M =>
    (getR M a0 4 8).bind fun v_1 =>
    (getI M v_1 3 4).bind fun v_2 =>
    if x2 < v_2 then
      (getR M a0 4 8).bind fun v_3 =>
      (p2_at v_3 x2 M).bind fun v_4 =>
      (getI M v_4 9 0).bind fun v_5 =>
      (p3_readRound_L14 k49 n) a0 (maxI x1 (v_5 + 1)) (x2 + 1) M
    else
      k49 a0 x1 M
def p3_readRound_J49 (a0 : Nat) (x1 : Int32) (M : mMem) : Option (Int32 × mMem) :=
  (p3_tookNumber a0 x1 99 M).bind fun q_1 =>
  if q_1.1 = 0 then
    some (0, q_1.2)
  else
    (getR q_1.2 a0 4 8).bind fun v_2 =>
    (getI q_1.2 a0 4 7).bind fun v_3 =>
    (putI q_1.2 v_2 3 5 v_3).bind fun M_4 =>
    some (1, M_4)
def p3_readRound (a0 : Nat) (M : mMem) : Option (Int32 × mMem) :=
  gd M a0 4 (
    (getI M a0 4 6).bind fun v_1 =>
    (putI M a0 4 6 (v_1 + 1)).bind fun M_2 =>
    p3_readRound_L14 p3_readRound_J49 gF a0 2 0 M_2)
abbrev rm3_readLine : Room := { frames := 4, cells := 0, slots := 0, locals := 87 }
def p3_readLine (a0 : Nat) (M : mMem) : Option (Int32 × mMem) :=
  gd M a0 4 (
    (p3_next a0 M).bind fun v_1 =>
    swI v_1 (
      some (0, M)) [(3,
      (p3_readPerson a0 M).bind fun q_2 =>
      (bZ q_2.1).bind fun z => some (z, q_2.2)), (4,
      some (0, M)), (5,
      some (0, M)), (6,
      some (0, M)), (7,
      some (0, M)), (8,
      some (0, M)), (9,
      some (0, M)), (10,
      some (0, M)), (11,
      (p3_readGoverns a0 M).bind fun q_3 =>
      (bZ q_3.1).bind fun z => some (z, q_3.2)), (12,
      (p3_readWed a0 M).bind fun q_4 =>
      (bZ q_4.1).bind fun z => some (z, q_4.2)), (13,
      (p3_readRound a0 M).bind fun q_5 =>
      (bZ q_5.1).bind fun z => some (z, q_5.2)), (14,
      (getI M a0 4 6).bind fun v_6 =>
      (putI M a0 4 6 (v_6 + 1)).bind fun M_7 =>
      (p3_tookNumber a0 0 99 M_7).bind fun q_8 =>
      if q_8.1 = 0 then
        some (0, q_8.2)
      else
        (getR q_8.2 a0 4 8).bind fun v_9 =>
        (getI q_8.2 a0 4 7).bind fun v_10 =>
        (putI q_8.2 v_9 3 6 v_10).bind fun M_11 =>
        some (1, M_11)), (15,
      (getI M a0 4 6).bind fun v_12 =>
      (putI M a0 4 6 (v_12 + 1)).bind fun M_13 =>
      (p3_tookNumber a0 0 20 M_13).bind fun q_14 =>
      if q_14.1 = 0 then
        some (0, q_14.2)
      else
        (getR q_14.2 a0 4 8).bind fun v_15 =>
        (getI q_14.2 a0 4 7).bind fun v_16 =>
        (putI q_14.2 v_15 3 7 v_16).bind fun M_17 =>
        some (1, M_17)), (16,
      (getI M a0 4 6).bind fun v_18 =>
      (putI M a0 4 6 (v_18 + 1)).bind fun M_19 =>
      (p3_tookNumber a0 0 999 M_19).bind fun q_20 =>
      if q_20.1 = 0 then
        some (0, q_20.2)
      else
        (getR q_20.2 a0 4 8).bind fun v_21 =>
        (getI q_20.2 a0 4 7).bind fun v_22 =>
        (putI q_20.2 v_21 3 8 v_22).bind fun M_23 =>
        some (1, M_23))])
abbrev rm4_init : Room := { frames := 1, cells := 8, slots := 1278, locals := 32 }
def p4_init (a0 : Nat) (M : mMem) : Option mMem :=
  gd M a0 5 (
    (newC M 20 12).bind fun n_1 =>
    (putR n_1.2 a0 5 0 n_1.1).bind fun M_2 =>
    (newC M_2 20 12).bind fun n_3 =>
    (putR n_3.2 a0 5 1 n_3.1).bind fun M_4 =>
    (newC M_4 20 12).bind fun n_5 =>
    (putR n_5.2 a0 5 2 n_5.1).bind fun M_6 =>
    (newC M_6 20 12).bind fun n_7 =>
    (putR n_7.2 a0 5 3 n_7.1).bind fun M_8 =>
    (newC M_8 20 400).bind fun n_9 =>
    (putR n_9.2 a0 5 4 n_9.1).bind fun M_10 =>
    (newC M_10 20 400).bind fun n_11 =>
    (putR n_11.2 a0 5 5 n_11.1).bind fun M_12 =>
    (newC M_12 20 30).bind fun n_13 =>
    (putR n_13.2 a0 5 6 n_13.1).bind fun M_14 =>
    (newC M_14 20 400).bind fun n_15 =>
    (putR n_15.2 a0 5 7 n_15.1).bind fun M_16 =>
    (putI M_16 a0 5 8 0).bind fun M_17 =>
    (putI M_17 a0 5 9 (-1)).bind fun M_18 =>
    some M_18)
abbrev rm4_begin : Room := { frames := 0, cells := 0, slots := 0, locals := 0 }
def p4_begin (a0 : Nat) (M : mMem) : Option mMem :=
  gd M a0 5 (
    (putI M a0 5 8 0).bind fun M_1 =>
    (putI M_1 a0 5 9 0).bind fun M_2 =>
    some M_2)
abbrev rm4_take : Room := { frames := 1, cells := 0, slots := 0, locals := 48 }
def p4_take (a0 : Nat) (a1 : Nat) (M : mMem) : Option mMem :=
  gd M a0 5 (
    (getR M a1 5 0).bind fun v_1 =>
    (getR M a0 5 0).bind fun v_2 =>
    (getR M a0 5 0).bind fun v_3 =>
    (lenA M v_3).bind fun v_4 =>
    (cpyI M v_1 0 v_2 0 v_4).bind fun M_5 =>
    (getR M_5 a1 5 1).bind fun v_6 =>
    (getR M_5 a0 5 1).bind fun v_7 =>
    (getR M_5 a0 5 1).bind fun v_8 =>
    (lenA M_5 v_8).bind fun v_9 =>
    (cpyI M_5 v_6 0 v_7 0 v_9).bind fun M_10 =>
    (getR M_10 a1 5 2).bind fun v_11 =>
    (getR M_10 a0 5 2).bind fun v_12 =>
    (getR M_10 a0 5 2).bind fun v_13 =>
    (lenA M_10 v_13).bind fun v_14 =>
    (cpyI M_10 v_11 0 v_12 0 v_14).bind fun M_15 =>
    (getR M_15 a1 5 3).bind fun v_16 =>
    (getR M_15 a0 5 3).bind fun v_17 =>
    (getR M_15 a0 5 3).bind fun v_18 =>
    (lenA M_15 v_18).bind fun v_19 =>
    (cpyI M_15 v_16 0 v_17 0 v_19).bind fun M_20 =>
    (getR M_20 a1 5 4).bind fun v_21 =>
    (getR M_20 a0 5 4).bind fun v_22 =>
    (getR M_20 a0 5 4).bind fun v_23 =>
    (lenA M_20 v_23).bind fun v_24 =>
    (cpyI M_20 v_21 0 v_22 0 v_24).bind fun M_25 =>
    (getR M_25 a1 5 5).bind fun v_26 =>
    (getR M_25 a0 5 5).bind fun v_27 =>
    (getR M_25 a0 5 5).bind fun v_28 =>
    (lenA M_25 v_28).bind fun v_29 =>
    (cpyI M_25 v_26 0 v_27 0 v_29).bind fun M_30 =>
    (getI M_30 a1 5 8).bind fun v_31 =>
    (putI M_30 a0 5 8 v_31).bind fun M_32 =>
    (getI M_32 a1 5 9).bind fun v_33 =>
    (putI M_32 a0 5 9 v_33).bind fun M_34 =>
    some M_34)
abbrev rm4_put : Room := { frames := 0, cells := 0, slots := 0, locals := 0 }
def p4_put_J49 (M : mMem) : Option mMem :=
  some M
def p4_put (a0 : Nat) (x1 : Int32) (x2 : Int32) (M : mMem) : Option mMem :=
  gd M a0 5 (
    (getI M a0 5 8).bind fun v_1 =>
    if v_1 < 0 then
      p4_put_J49 M
    else
      (getI M a0 5 8).bind fun v_2 =>
      (getR M a0 5 4).bind fun v_3 =>
      (lenA M v_3).bind fun v_4 =>
      if v_2 < v_4 then
        (getR M a0 5 4).bind fun v_5 =>
        (getI M a0 5 8).bind fun v_6 =>
        (astI M v_5 v_6 x1).bind fun M_7 =>
        (getR M_7 a0 5 5).bind fun v_8 =>
        (getI M_7 a0 5 8).bind fun v_9 =>
        (astI M_7 v_8 v_9 x2).bind fun M_10 =>
        (getI M_10 a0 5 8).bind fun v_11 =>
        (putI M_10 a0 5 8 (v_11 + 1)).bind fun M_12 =>
        p4_put_J49 M_12
      else
        p4_put_J49 M)
abbrev rm4_addLine : Room := { frames := 0, cells := 0, slots := 0, locals := 0 }
def p4_addLine_J69 (M : mMem) : Option mMem :=
  some M
def p4_addLine (a0 : Nat) (x1 : Int32) (x2 : Int32) (x3 : Int32) (M : mMem) : Option mMem :=
  gd M a0 5 (
    (getI M a0 5 9).bind fun v_1 =>
    if v_1 < 0 then
      p4_addLine_J69 M
    else
      (getI M a0 5 9).bind fun v_2 =>
      if v_2 < 12 then
        (getR M a0 5 0).bind fun v_3 =>
        (getI M a0 5 9).bind fun v_4 =>
        (astI M v_3 v_4 x1).bind fun M_5 =>
        (getR M_5 a0 5 1).bind fun v_6 =>
        (getI M_5 a0 5 9).bind fun v_7 =>
        (astI M_5 v_6 v_7 x2).bind fun M_8 =>
        (getR M_8 a0 5 2).bind fun v_9 =>
        (getI M_8 a0 5 9).bind fun v_10 =>
        (astI M_8 v_9 v_10 x3).bind fun M_11 =>
        (getR M_11 a0 5 3).bind fun v_12 =>
        (getI M_11 a0 5 9).bind fun v_13 =>
        (getI M_11 a0 5 8).bind fun v_14 =>
        (astI M_11 v_12 v_13 v_14).bind fun M_15 =>
        (getI M_15 a0 5 9).bind fun v_16 =>
        (putI M_15 a0 5 9 (v_16 + 1)).bind fun M_17 =>
        p4_addLine_J69 M_17
      else
        p4_addLine_J69 M)
abbrev rm5_sinit : Room := { frames := 1, cells := 3, slots := 1200, locals := 32 }
def p5_sinit (a0 : Nat) (x1 : Int32) (M : mMem) : Option mMem :=
  gd M a0 6 (
    (newC M 20 400).bind fun n_1 =>
    (putR n_1.2 a0 6 0 n_1.1).bind fun M_2 =>
    (newC M_2 20 400).bind fun n_3 =>
    (putR n_3.2 a0 6 1 n_3.1).bind fun M_4 =>
    (newC M_4 20 400).bind fun n_5 =>
    (putR n_5.2 a0 6 2 n_5.1).bind fun M_6 =>
    (putI M_6 a0 6 4 0).bind fun M_7 =>
    (putI M_7 a0 6 5 0).bind fun M_8 =>
    (putI M_8 a0 6 6 0).bind fun M_9 =>
    (putI M_9 a0 6 7 0).bind fun M_10 =>
    (putI M_10 a0 6 3 x1).bind fun M_11 =>
    some M_11)
abbrev rm5_init : Room := { frames := 2, cells := 3, slots := 1200, locals := 53 }
def p5_init (a0 : Nat) (a1 : Nat) (M : mMem) : Option mMem :=
  gd M a0 6 (
    (p5_sinit a0 12 M).bind fun q_1 =>
    (putR q_1 a0 6 8 a1).bind fun M_2 =>
    some M_2)
