abbrev rm12_readNumber : Room := { frames := 3, cells := 0, slots := 0, locals := 65 }
def p12_readNumber_J40 (u0 : Int32) (M : mMem) : Option (Int32 × mMem) :=
  (bZ u0).bind fun z => some (z, M)
def p12_readNumber_J29 (x4 : Int32) (b0 : Nat) (u1 : Int32) (u2 : Int32) (M : mMem) : Option (Int32 × mMem) :=
  (astI M b0 u1 u2).bind fun M_1 =>
  if x4 < 0 then
    p12_readNumber_J40 0 M_1
  else
    p12_readNumber_J40 1 M_1
def p12_readNumber (a0 : Nat) (x1 : Int32) (x2 : Int32) (x3 : Int32) (M : mMem) : Option (Int32 × mMem) :=
  gd M a0 12 (
    (p12_number a0 x2 x3 M).bind fun q_1 =>
    (getR q_1.2 a0 12 1).bind fun v_2 =>
    if q_1.1 < 0 then
      (getR q_1.2 a0 12 1).bind fun v_3 =>
      (aldI q_1.2 v_3 20 x1).bind fun v_4 =>
      p12_readNumber_J29 q_1.1 v_2 x1 v_4 q_1.2
    else
      p12_readNumber_J29 q_1.1 v_2 x1 q_1.1 q_1.2)
abbrev rm12_told : Room := { frames := 8, cells := 0, slots := 0, locals := 284 }
def p12_told_J31 (u0 : Int32) (M : mMem) : Option (Int32 × mMem) :=
  some (u0, M)
def p12_told (a0 : Nat) (s1 : Nat) (x2 : Int32) (x3 : Int32) (x4 : Int32) (M : mMem) : Option (Int32 × mMem) :=
  gd M a0 12 (
    (p12_passes a0 s1 M).bind fun q_1 =>
    if q_1.1 = 0 then
      some (x4, q_1.2)
    else
      (p12_number a0 x2 x3 q_1.2).bind fun q_2 =>
      if q_2.1 < 0 then
        p12_told_J31 1000000 q_2.2
      else
        p12_told_J31 q_2.1 q_2.2)
abbrev rm12_isBorn : Room := { frames := 1, cells := 0, slots := 0, locals := 21 }
def p12_isBorn_L3 : Nat → Nat → Int32 → Int32 → Int32 → Int32 → Int32 → mMem → Option mMem
  | 0, _, _, _, _, _, _, _ => none
  | n + 1, a0, x1, x2, x3, x4, x5, M =>
    if x5 < 17 then
      (getR M a0 12 1).bind fun v_19 =>
      (p12_at x1 x5 M).bind fun v_20 =>
      (astI M v_19 v_20 0).bind fun M_21 =>
      (p12_isBorn_L3 n) a0 x1 x2 x3 x4 (x5 + 1) M_21
    else
      (getR M a0 12 1).bind fun v_1 =>
      (p12_at x1 0 M).bind fun v_2 =>
      (astI M v_1 v_2 x3).bind fun M_3 =>
      (getR M_3 a0 12 1).bind fun v_4 =>
      (p12_at x1 2 M_3).bind fun v_5 =>
      (astI M_3 v_4 v_5 x2).bind fun M_6 =>
      (getR M_6 a0 12 1).bind fun v_7 =>
      (p12_at x1 3 M_6).bind fun v_8 =>
      (astI M_6 v_7 v_8 x4).bind fun M_9 =>
      (getR M_9 a0 12 1).bind fun v_10 =>
      (p12_at x1 4 M_9).bind fun v_11 =>
      (astI M_9 v_10 v_11 (-1)).bind fun M_12 =>
      (getR M_12 a0 12 1).bind fun v_13 =>
      (p12_at x1 6 M_12).bind fun v_14 =>
      (astI M_12 v_13 v_14 50).bind fun M_15 =>
      (getR M_15 a0 12 1).bind fun v_16 =>
      (aldI M_15 v_16 20 0).bind fun v_17 =>
      (astI M_15 v_16 0 (v_17 + 1)).bind fun M_18 =>
      some M_18
def p12_isBorn (a0 : Nat) (x1 : Int32) (x2 : Int32) (x3 : Int32) (x4 : Int32) (M : mMem) : Option mMem :=
  gd M a0 12 (
    p12_isBorn_L3 gF a0 x1 x2 x3 x4 0 M)
abbrev rm12_readPerson : Room := { frames := 9, cells := 0, slots := 0, locals := 309 }
def p12_readPerson_J159 (a0 : Nat) (x1 : Int32) (x2 : Int32) (x3 : Int32) (x4 : Int32) (x5 : Int32) (x6 : Int32) (u0 : Int32) (M : mMem) : Option (Int32 × mMem) :=
  if u0 = 1000000 then
    some (0, M)
  else
    (p12_isBorn a0 x1 x2 x3 x4 M).bind fun q_1 =>
    (getR q_1 a0 12 1).bind fun v_2 =>
    (p12_at x1 5 q_1).bind fun v_3 =>
    (astI q_1 v_2 v_3 x5).bind fun M_4 =>
    (getR M_4 a0 12 1).bind fun v_5 =>
    (p12_at x1 6 M_4).bind fun v_6 =>
    (astI M_4 v_5 v_6 x6).bind fun M_7 =>
    (getR M_7 a0 12 1).bind fun v_8 =>
    (p12_at x1 7 M_7).bind fun v_9 =>
    (astI M_7 v_8 v_9 u0).bind fun M_10 =>
    some (1, M_10)
def p12_readPerson_J135 (a0 : Nat) (x1 : Int32) (x2 : Int32) (x3 : Int32) (x4 : Int32) (x5 : Int32) (u0 : Int32) (M : mMem) : Option (Int32 × mMem) :=
  if u0 = 1000000 then
    p12_readPerson_J159 a0 x1 x2 x3 x4 x5 u0 1000000 M
  else
    (p12_told a0 7 0 9 0 M).bind fun q_1 =>
    p12_readPerson_J159 a0 x1 x2 x3 x4 x5 u0 q_1.1 q_1.2
def p12_readPerson_J110 (a0 : Nat) (x1 : Int32) (x2 : Int32) (x3 : Int32) (x4 : Int32) (u0 : Int32) (M : mMem) : Option (Int32 × mMem) :=
  if u0 = 1000000 then
    p12_readPerson_J135 a0 x1 x2 x3 x4 u0 1000000 M
  else
    (p12_told a0 6 0 100 50 M).bind fun q_1 =>
    p12_readPerson_J135 a0 x1 x2 x3 x4 u0 q_1.1 q_1.2
def p12_readPerson_J68 (a0 : Nat) (x1 : Int32) (x2 : Int32) (u0 : Int32) (M : mMem) : Option (Int32 × mMem) :=
  if u0 < 0 then
    some (0, M)
  else
    (p12_told a0 4 0 (x1 - 1) (-1) M).bind fun q_1 =>
    if q_1.1 = 1000000 then
      p12_readPerson_J110 a0 x1 x2 u0 q_1.1 1000000 q_1.2
    else
      (p12_told a0 5 0 100 0 q_1.2).bind fun q_2 =>
      p12_readPerson_J110 a0 x1 x2 u0 q_1.1 q_2.1 q_2.2
def p12_readPerson_J44 (a0 : Nat) (x1 : Int32) (u0 : Int32) (M : mMem) : Option (Int32 × mMem) :=
  if u0 < 0 then
    p12_readPerson_J68 a0 x1 u0 (-1) M
  else
    (getR M a0 12 1).bind fun v_1 =>
    (aldI M v_1 20 4).bind fun v_2 =>
    (p12_after a0 3 0 (v_2 - 1) M).bind fun q_3 =>
    p12_readPerson_J68 a0 x1 u0 q_3.1 q_3.2
def p12_readPerson (a0 : Nat) (M : mMem) : Option (Int32 × mMem) :=
  gd M a0 12 (
    (p12_people a0 M).bind fun v_1 =>
    if v_1 = 8 then
      some (0, M)
    else
      (p12_letters a0 M).bind fun q_2 =>
      (p12_isWord a0 1 q_2).bind fun v_3 =>
      if v_3 = 0 then
        (p12_isWord a0 2 q_2).bind fun v_4 =>
        if v_4 = 0 then
          p12_readPerson_J44 a0 v_1 (-1) q_2
        else
          p12_readPerson_J44 a0 v_1 1 q_2
      else
        p12_readPerson_J44 a0 v_1 0 q_2)
abbrev rm12_personTold : Room := { frames := 3, cells := 0, slots := 0, locals := 65 }
def p12_personTold (a0 : Nat) (M : mMem) : Option (Int32 × mMem) :=
  gd M a0 12 (
    (p12_people a0 M).bind fun v_1 =>
    (p12_number a0 0 (v_1 - 1) M).bind fun q_2 =>
    some (q_2.1, q_2.2))
abbrev rm12_readGoverns : Room := { frames := 4, cells := 0, slots := 0, locals := 85 }
def p12_readGoverns_J27 (M : mMem) : Option (Int32 × mMem) :=
  some (0, M)
def p12_readGoverns_J17 (a0 : Nat) (x1 : Int32) (u0 : Int32) (M : mMem) : Option (Int32 × mMem) :=
  if u0 < 0 then
    p12_readGoverns_J27 M
  else
    if u0 = x1 then
      p12_readGoverns_J27 M
    else
      (getR M a0 12 1).bind fun v_1 =>
      (p12_at u0 8 M).bind fun v_2 =>
      (aldI M v_1 20 v_2).bind fun v_3 =>
      (astI M v_1 v_2 (v_3 ||| ((1 : Int32) <<< (x1 &&& 31)))).bind fun M_4 =>
      some (1, M_4)
def p12_readGoverns (a0 : Nat) (M : mMem) : Option (Int32 × mMem) :=
  gd M a0 12 (
    (p12_personTold a0 M).bind fun q_1 =>
    if q_1.1 < 0 then
      p12_readGoverns_J17 a0 q_1.1 (-1) q_1.2
    else
      (p12_personTold a0 q_1.2).bind fun q_2 =>
      p12_readGoverns_J17 a0 q_1.1 q_2.1 q_2.2)
abbrev rm12_mayWed : Room := { frames := 4, cells := 0, slots := 0, locals := 87 }
def p12_mayWed_J45 (M : mMem) (u0 : Int32) : Option Int32 :=
  (bZ u0).bind fun z => some z
def p12_mayWed_J44 (M : mMem) : Option Int32 :=
  p12_mayWed_J45 M 0
def p12_mayWed (a0 : Nat) (x1 : Int32) (x2 : Int32) (M : mMem) : Option Int32 :=
  gd M a0 12 (
    (p12_of a0 x1 2 M).bind fun v_1 =>
    (p12_of a0 x2 2 M).bind fun v_2 =>
    if v_1 = v_2 then
      p12_mayWed_J44 M
    else
      (p12_isSingle a0 x1 M).bind fun v_3 =>
      if v_3 = 0 then
        p12_mayWed_J44 M
      else
        (p12_isSingle a0 x2 M).bind fun v_4 =>
        if v_4 = 0 then
          p12_mayWed_J44 M
        else
          (p12_areClose a0 x1 x2 M).bind fun v_5 =>
          if v_5 = 0 then
            p12_mayWed_J45 M 1
          else
            p12_mayWed_J44 M)
abbrev rm12_weds : Room := { frames := 1, cells := 0, slots := 0, locals := 21 }
def p12_weds (a0 : Nat) (x1 : Int32) (x2 : Int32) (M : mMem) : Option mMem :=
  gd M a0 12 (
    (getR M a0 12 1).bind fun v_1 =>
    (p12_at x1 4 M).bind fun v_2 =>
    (astI M v_1 v_2 x2).bind fun M_3 =>
    (getR M_3 a0 12 1).bind fun v_4 =>
    (p12_at x2 4 M_3).bind fun v_5 =>
    (astI M_3 v_4 v_5 x1).bind fun M_6 =>
    some M_6)
abbrev rm12_readWed : Room := { frames := 5, cells := 0, slots := 0, locals := 109 }
def p12_readWed_J31 (M : mMem) : Option (Int32 × mMem) :=
  some (0, M)
def p12_readWed_J17 (a0 : Nat) (x1 : Int32) (u0 : Int32) (M : mMem) : Option (Int32 × mMem) :=
  if u0 < 0 then
    p12_readWed_J31 M
  else
    (p12_mayWed a0 x1 u0 M).bind fun v_1 =>
    if v_1 = 0 then
      p12_readWed_J31 M
    else
      (p12_weds a0 x1 u0 M).bind fun q_2 =>
      some (1, q_2)
def p12_readWed (a0 : Nat) (M : mMem) : Option (Int32 × mMem) :=
  gd M a0 12 (
    (p12_personTold a0 M).bind fun q_1 =>
    if q_1.1 < 0 then
      p12_readWed_J17 a0 q_1.1 (-1) q_1.2
    else
      (p12_personTold a0 q_1.2).bind fun q_2 =>
      p12_readWed_J17 a0 q_1.1 q_2.1 q_2.2)
abbrev rm12_greatestAge : Room := { frames := 2, cells := 0, slots := 0, locals := 43 }
def p12_greatestAge_L4 (M : mMem) : Nat → Nat → Int32 → Int32 → Option Int32
  | 0, _, _, _ => none
  | n + 1, a0, x1, x2 =>
    (p12_people a0 M).bind fun v_1 =>
    if x2 < v_1 then
      (p12_of a0 x2 0 M).bind fun v_2 =>
      (p12_greatestAge_L4 M n) a0 (maxI x1 v_2) (x2 + 1)
    else
      some x1
def p12_greatestAge (a0 : Nat) (M : mMem) : Option Int32 :=
  gd M a0 12 (
    p12_greatestAge_L4 M gF a0 (-1) 0)
abbrev rm12_readFamilyLine : Room := { frames := 10, cells := 0, slots := 0, locals := 336 }
def p12_readFamilyLine_J132 (u0 : Int32) (M : mMem) : Option (Int32 × mMem) :=
  (bZ u0).bind fun z => some (z, M)
def p12_readFamilyLine_J131 (M : mMem) : Option (Int32 × mMem) :=
  p12_readFamilyLine_J132 0 M
def p12_readFamilyLine (a0 : Nat) (M : mMem) : Option (Int32 × mMem) :=
  gd M a0 12 (
    (p12_isWord a0 0 M).bind fun v_1 =>
    if v_1 = 0 then
      (p12_isWord a0 8 M).bind fun v_2 =>
      if v_2 = 0 then
        (p12_isWord a0 9 M).bind fun v_3 =>
        if v_3 = 0 then
          (p12_isWord a0 10 M).bind fun v_4 =>
          if v_4 = 0 then
            (p12_isWord a0 11 M).bind fun v_5 =>
            if v_5 = 0 then
              (p12_isWord a0 12 M).bind fun v_6 =>
              if v_6 = 0 then
                (p12_isWord a0 13 M).bind fun v_7 =>
                if v_7 = 0 then
                  p12_readFamilyLine_J131 M
                else
                  (p12_readNumber a0 3 0 999 M).bind fun q_8 =>
                  if q_8.1 = 0 then
                    p12_readFamilyLine_J131 q_8.2
                  else
                    p12_readFamilyLine_J132 1 q_8.2
              else
                (p12_readNumber a0 6 0 20 M).bind fun q_9 =>
                (bZ q_9.1).bind fun z => some (z, q_9.2)
            else
              (p12_readNumber a0 5 0 99 M).bind fun q_10 =>
              (bZ q_10.1).bind fun z => some (z, q_10.2)
          else
            (p12_greatestAge a0 M).bind fun v_11 =>
            (p12_readNumber a0 4 (maxI 2 (v_11 + 1)) 99 M).bind fun q_12 =>
            (bZ q_12.1).bind fun z => some (z, q_12.2)
        else
          (p12_readWed a0 M).bind fun q_13 =>
          (bZ q_13.1).bind fun z => some (z, q_13.2)
      else
        (p12_readGoverns a0 M).bind fun q_14 =>
        (bZ q_14.1).bind fun z => some (z, q_14.2)
    else
      (p12_readPerson a0 M).bind fun q_15 =>
      (bZ q_15.1).bind fun z => some (z, q_15.2))
abbrev rm12_emits : Room := { frames := 0, cells := 0, slots := 0, locals := 0 }
def p12_emits (a0 : Nat) (x1 : Int32) (x2 : Int32) (M : mMem) : Option mMem :=
  gd M a0 12 (
    (getR M a0 12 1).bind fun v_1 =>
    (getI M a0 12 16).bind fun v_2 =>
    (astI M v_1 ((1343 : Int32) + ((2 : Int32) * v_2)) x1).bind fun M_3 =>
    (getR M_3 a0 12 1).bind fun v_4 =>
    (getI M_3 a0 12 16).bind fun v_5 =>
    (astI M_3 v_4 (((1343 : Int32) + ((2 : Int32) * v_5)) + 1) x2).bind fun M_6 =>
    (getI M_6 a0 12 16).bind fun v_7 =>
    (putI M_6 a0 12 16 (v_7 + 1)).bind fun M_8 =>
    some M_8)
abbrev rm12_wordOfPart : Room := { frames := 7, cells := 0, slots := 0, locals := 263 }
def p12_wordOfPart_J69 (M : mMem) (u0 : Int32) : Option Int32 :=
  some u0
def p12_wordOfPart (a0 : Nat) (M : mMem) : Option Int32 :=
  gd M a0 12 (
    (p12_isWord a0 23 M).bind fun v_1 =>
    if v_1 = 0 then
      (p12_isWord a0 24 M).bind fun v_2 =>
      if v_2 = 0 then
        (p12_isWord a0 3 M).bind fun v_3 =>
        if v_3 = 0 then
          (p12_isWord a0 25 M).bind fun v_4 =>
          if v_4 = 0 then
            (p12_isWord a0 26 M).bind fun v_5 =>
            if v_5 = 0 then
              (p12_isWord a0 13 M).bind fun v_6 =>
              if v_6 = 0 then
                p12_wordOfPart_J69 M (-1)
              else
                p12_wordOfPart_J69 M 5
            else
              some 4
          else
            some 3
        else
          some 2
      else
        some 1
    else
      some 0)
abbrev rm12_readPart : Room := { frames := 8, cells := 0, slots := 0, locals := 283 }
def p12_readPart_J73 (u0 : Int32) (M : mMem) : Option (Int32 × mMem) :=
  (bZ u0).bind fun z => some (z, M)
def p12_readPart_J61 (x2 : Int32) (b0 : Nat) (u1 : Int32) (u2 : Int32) (M : mMem) : Option (Int32 × mMem) :=
  (p12_emits b0 u1 u2 M).bind fun q_1 =>
  if x2 < 0 then
    p12_readPart_J73 0 q_1
  else
    p12_readPart_J73 1 q_1
def p12_readPart_J52 (x1 : Int32) (x2 : Int32) (b0 : Nat) (u1 : Int32) (M : mMem) : Option (Int32 × mMem) :=
  if x1 = 0 then
    p12_readPart_J61 x2 b0 u1 0 M
  else
    p12_readPart_J61 x2 b0 u1 x2 M
def p12_readPart_J40 (a0 : Nat) (x1 : Int32) (u0 : Int32) (M : mMem) : Option (Int32 × mMem) :=
  if x1 = 0 then
    p12_readPart_J52 x1 u0 a0 u0 M
  else
    p12_readPart_J52 x1 u0 a0 9 M
def p12_readPart_J20 (a0 : Nat) (u0 : Int32) (M : mMem) : Option (Int32 × mMem) :=
  if u0 = 0 then
    (p12_wordOfPart a0 M).bind fun v_1 =>
    p12_readPart_J40 a0 u0 v_1 M
  else
    (p12_number a0 0 999 M).bind fun q_2 =>
    p12_readPart_J40 a0 u0 q_2.1 q_2.2
def p12_readPart (a0 : Nat) (M : mMem) : Option (Int32 × mMem) :=
  gd M a0 12 (
    (p12_letters a0 M).bind fun q_1 =>
    (getI q_1 a0 12 10).bind fun v_2 =>
    (getI q_1 a0 12 12).bind fun v_3 =>
    if v_2 = v_3 then
      p12_readPart_J20 a0 1 q_1
    else
      p12_readPart_J20 a0 0 q_1)
abbrev rm12_readSum : Room := { frames := 9, cells := 0, slots := 0, locals := 305 }
def p12_readSum_L9 : Nat → Nat → mMem → Option (Int32 × mMem)
  | 0, _, _ => none
  | n + 1, a0, M =>
    (p12_sign a0 43 M).bind fun q_1 =>
    if q_1.1 = 0 then
      some (1, q_1.2)
    else
      (p12_readPart a0 q_1.2).bind fun q_2 =>
      if q_2.1 = 0 then
        some (0, q_2.2)
      else
        (p12_emits a0 10 0 q_2.2).bind fun q_3 =>
        (p12_readSum_L9 n) a0 q_3
def p12_readSum (a0 : Nat) (M : mMem) : Option (Int32 × mMem) :=
  gd M a0 12 (
    (p12_readPart a0 M).bind fun q_1 =>
    if q_1.1 = 0 then
      some (0, q_1.2)
    else
      p12_readSum_L9 gF a0 q_1.2)
abbrev rm12_readTag : Room := { frames := 7, cells := 0, slots := 0, locals := 263 }
def p12_readTag_J78 (u0 : Int32) (M : mMem) : Option (Int32 × mMem) :=
  (bZ u0).bind fun z => some (z, M)
def p12_readTag_J69 (x1 : Int32) (M : mMem) : Option (Int32 × mMem) :=
  if x1 < 0 then
    p12_readTag_J78 0 M
  else
    p12_readTag_J78 1 M
def p12_readTag_J47 (a0 : Nat) (u0 : Int32) (M : mMem) : Option (Int32 × mMem) :=
  if u0 < 0 then
    (getI M a0 12 12).bind fun v_1 =>
    (putI M a0 12 10 v_1).bind fun M_2 =>
    p12_readTag_J69 u0 M_2
  else
    (p12_emits a0 u0 0 M).bind fun q_3 =>
    p12_readTag_J69 u0 q_3
def p12_readTag (a0 : Nat) (M : mMem) : Option (Int32 × mMem) :=
  gd M a0 12 (
    (p12_letters a0 M).bind fun q_1 =>
    (p12_isWord a0 9 q_1).bind fun v_2 =>
    if v_2 = 0 then
      (p12_isWord a0 21 q_1).bind fun v_3 =>
      if v_3 = 0 then
        (p12_isWord a0 22 q_1).bind fun v_4 =>
        if v_4 = 0 then
          p12_readTag_J47 a0 (-1) q_1
        else
          p12_readTag_J47 a0 8 q_1
      else
        p12_readTag_J47 a0 7 q_1
    else
      p12_readTag_J47 a0 6 q_1)
def rmG3 (d : Nat) : Room := { frames := d + 10, cells := 0, slots := 0, locals := 21 * d + 325 }
def p12_readAllOf_L9 (f_12_readAtom : Nat → mMem → Option (Int32 × mMem)) : Nat → Nat → mMem → Option (Int32 × mMem)
  | 0, _, _ => none
  | n + 1, a0, M =>
    (p12_passes a0 19 M).bind fun q_1 =>
    if q_1.1 = 0 then
      some (1, q_1.2)
    else
      (f_12_readAtom a0 q_1.2).bind fun q_2 =>
      if q_2.1 = 0 then
        some (0, q_2.2)
      else
        (p12_emits a0 14 0 q_2.2).bind fun q_3 =>
        (p12_readAllOf_L9 f_12_readAtom n) a0 q_3
def p12_readAllOf_B (f_12_readAtom : Nat → mMem → Option (Int32 × mMem)) (a0 : Nat) (M : mMem) : Option (Int32 × mMem) :=
  gd M a0 12 (
    (f_12_readAtom a0 M).bind fun q_1 =>
    if q_1.1 = 0 then
      some (0, q_1.2)
    else
      p12_readAllOf_L9 f_12_readAtom gF a0 q_1.2)
def p12_readCond_L9 (f_12_readAllOf : Nat → mMem → Option (Int32 × mMem)) : Nat → Nat → mMem → Option (Int32 × mMem)
  | 0, _, _ => none
  | n + 1, a0, M =>
    (p12_passes a0 18 M).bind fun q_1 =>
    if q_1.1 = 0 then
      some (1, q_1.2)
    else
      (f_12_readAllOf a0 q_1.2).bind fun q_2 =>
      if q_2.1 = 0 then
        some (0, q_2.2)
      else
        (p12_emits a0 15 0 q_2.2).bind fun q_3 =>
        (p12_readCond_L9 f_12_readAllOf n) a0 q_3
def p12_readCond_B (f_12_readAllOf : Nat → mMem → Option (Int32 × mMem)) (a0 : Nat) (M : mMem) : Option (Int32 × mMem) :=
  gd M a0 12 (
    (f_12_readAllOf a0 M).bind fun q_1 =>
    if q_1.1 = 0 then
      some (0, q_1.2)
    else
      p12_readCond_L9 f_12_readAllOf gF a0 q_1.2)
def p12_readAtom_J173 (b0 : Nat) (u1 : Int32) (M : mMem) : Option (Int32 × mMem) :=
  (p12_emits b0 u1 0 M).bind fun q_1 =>
  some (1, q_1)
def p12_readAtom_J159 (M : mMem) : Option (Int32 × mMem) :=
  some (0, M)
def p12_readAtom_J152 (a0 : Nat) (x1 : Int32) (M : mMem) : Option (Int32 × mMem) :=
  (p12_readSum a0 M).bind fun q_1 =>
  if q_1.1 = 0 then
    p12_readAtom_J159 q_1.2
  else
    if x1 = 0 then
      p12_readAtom_J173 a0 12 q_1.2
    else
      p12_readAtom_J173 a0 11 q_1.2
def p12_readAtom_B (f_12_readAtom : Nat → mMem → Option (Int32 × mMem)) (f_12_readCond : Nat → mMem → Option (Int32 × mMem)) (a0 : Nat) (M : mMem) : Option (Int32 × mMem) :=
  gd M a0 12 (
    (p12_sign a0 40 M).bind fun q_1 =>
    if q_1.1 = 0 then
      (p12_passes a0 20 q_1.2).bind fun q_2 =>
      if q_2.1 = 0 then
        (p12_readTag a0 q_2.2).bind fun q_3 =>
        if q_3.1 = 0 then
          (p12_readSum a0 q_3.2).bind fun q_4 =>
          if q_4.1 = 0 then
            some (0, q_4.2)
          else
            (p12_sign a0 60 q_4.2).bind fun q_5 =>
            if q_5.1 = 0 then
              (p12_sign a0 62 q_5.2).bind fun q_6 =>
              if q_6.1 = 0 then
                p12_readAtom_J159 q_6.2
              else
                p12_readAtom_J152 a0 q_5.1 q_6.2
            else
              p12_readAtom_J152 a0 q_5.1 q_5.2
        else
          some (1, q_3.2)
      else
        (getI q_2.2 a0 12 13).bind fun v_7 =>
        if v_7 = 6 then
          some (0, q_2.2)
        else
          (getI q_2.2 a0 12 13).bind fun v_8 =>
          (putI q_2.2 a0 12 13 (v_8 + 1)).bind fun M_9 =>
          (f_12_readAtom a0 M_9).bind fun q_10 =>
          if q_10.1 = 0 then
            some (0, q_10.2)
          else
            (getI q_10.2 a0 12 13).bind fun v_11 =>
            (putI q_10.2 a0 12 13 (v_11 - 1)).bind fun M_12 =>
            (p12_emits a0 13 0 M_12).bind fun q_13 =>
            some (1, q_13)
    else
      (getI q_1.2 a0 12 13).bind fun v_14 =>
      if v_14 = 6 then
        some (0, q_1.2)
      else
        (getI q_1.2 a0 12 13).bind fun v_15 =>
        (putI q_1.2 a0 12 13 (v_15 + 1)).bind fun M_16 =>
        (f_12_readCond a0 M_16).bind fun q_17 =>
        if q_17.1 = 0 then
          some (0, q_17.2)
        else
          (getI q_17.2 a0 12 13).bind fun v_18 =>
          (putI q_17.2 a0 12 13 (v_18 - 1)).bind fun M_19 =>
          (p12_sign a0 41 M_19).bind fun q_20 =>
          (bZ q_20.1).bind fun z => some (z, q_20.2))
def grp3 : Nat → (Nat → mMem → Option (Int32 × mMem)) × (Nat → mMem → Option (Int32 × mMem)) × (Nat → mMem → Option (Int32 × mMem))
  | 0 => (fun _ _ => none, fun _ _ => none, fun _ _ => none)
  | d + 1 => (fun a0 M => p12_readAllOf_B ((grp3 d).2.2) a0 M,
      fun a0 M => p12_readCond_B ((grp3 d).1) a0 M,
      fun a0 M => p12_readAtom_B ((grp3 d).2.2) ((grp3 d).2.1) a0 M)
def p12_readAllOf (a0 : Nat) (M : mMem) : Option (Int32 × mMem) := (grp3 64).1 a0 M
abbrev rm12_readAllOf : Room := { frames := 74, cells := 0, slots := 0, locals := 1669 }
def p12_readCond (a0 : Nat) (M : mMem) : Option (Int32 × mMem) := (grp3 64).2.1 a0 M
abbrev rm12_readCond : Room := { frames := 74, cells := 0, slots := 0, locals := 1669 }
def p12_readAtom (a0 : Nat) (M : mMem) : Option (Int32 × mMem) := (grp3 64).2.2 a0 M
abbrev rm12_readAtom : Room := { frames := 74, cells := 0, slots := 0, locals := 1669 }
abbrev rm12_readLawLine : Room := { frames := 75, cells := 0, slots := 0, locals := 1689 }
def p12_readLawLine_J146 (a0 : Nat) (x2 : Int32) (M : mMem) : Option (Int32 × mMem) :=
  (getR M a0 12 1).bind fun v_1 =>
  (getI M a0 12 16).bind fun v_2 =>
  (astI M v_1 (x2 + 3) v_2).bind fun M_3 =>
  some (1, M_3)
def p12_readLawLine_J96 (a0 : Nat) (x2 : Int32) (b0 : Nat) (u1 : Int32) (u2 : Int32) (M : mMem) : Option (Int32 × mMem) :=
  (astI M b0 u1 u2).bind fun M_1 =>
  (getR M_1 a0 12 1).bind fun v_2 =>
  (aldI M_1 v_2 20 (x2 + 1)).bind fun v_3 =>
  if v_3 < 0 then
    some (0, M_1)
  else
    (getR M_1 a0 12 1).bind fun v_4 =>
    (getI M_1 a0 12 16).bind fun v_5 =>
    (astI M_1 v_4 (x2 + 2) v_5).bind fun M_6 =>
    (putI M_6 a0 12 13 0).bind fun M_7 =>
    (p12_passes a0 17 M_7).bind fun q_8 =>
    if q_8.1 = 0 then
      p12_readLawLine_J146 a0 x2 q_8.2
    else
      (p12_readCond a0 q_8.2).bind fun q_9 =>
      if q_9.1 = 0 then
        some (0, q_9.2)
      else
        p12_readLawLine_J146 a0 x2 q_9.2
def p12_readLawLine_J56 (a0 : Nat) (x2 : Int32) (b0 : Nat) (u1 : Int32) (u2 : Int32) (M : mMem) : Option (Int32 × mMem) :=
  (astI M b0 u1 u2).bind fun M_1 =>
  (getR M_1 a0 12 1).bind fun v_2 =>
  (aldI M_1 v_2 20 x2).bind fun v_3 =>
  if v_3 < 0 then
    some (0, M_1)
  else
    (getR M_1 a0 12 1).bind fun v_4 =>
    (getR M_1 a0 12 1).bind fun v_5 =>
    (aldI M_1 v_5 20 x2).bind fun v_6 =>
    if v_6 = 2 then
      p12_readLawLine_J96 a0 x2 v_4 (x2 + 1) 1 M_1
    else
      (p12_number a0 0 60 M_1).bind fun q_7 =>
      p12_readLawLine_J96 a0 x2 v_4 (x2 + 1) q_7.1 q_7.2
def p12_readLawLine (a0 : Nat) (x1 : Int32) (M : mMem) : Option (Int32 × mMem) :=
  gd M a0 12 (
    (getR M a0 12 1).bind fun v_1 =>
    (p12_isWord a0 14 M).bind fun v_2 =>
    if v_2 = 0 then
      (p12_isWord a0 15 M).bind fun v_3 =>
      if v_3 = 0 then
        (p12_isWord a0 16 M).bind fun v_4 =>
        if v_4 = 0 then
          p12_readLawLine_J56 a0 ((1295 : Int32) + ((4 : Int32) * x1)) v_1 ((1295 : Int32) + ((4 : Int32) * x1)) (-1) M
        else
          p12_readLawLine_J56 a0 ((1295 : Int32) + ((4 : Int32) * x1)) v_1 ((1295 : Int32) + ((4 : Int32) * x1)) 2 M
      else
        p12_readLawLine_J56 a0 ((1295 : Int32) + ((4 : Int32) * x1)) v_1 ((1295 : Int32) + ((4 : Int32) * x1)) 1 M
    else
      p12_readLawLine_J56 a0 ((1295 : Int32) + ((4 : Int32) * x1)) v_1 ((1295 : Int32) + ((4 : Int32) * x1)) 0 M)
abbrev rm12_readLine : Room := { frames := 76, cells := 0, slots := 0, locals := 1711 }
def p12_readLine_J46 (u0 : Int32) (M : mMem) : Option (Int32 × mMem) :=
  (bZ u0).bind fun z => some (z, M)
def p12_readLine_J45 (M : mMem) : Option (Int32 × mMem) :=
  p12_readLine_J46 0 M
def p12_readLine_J41 (M : mMem) : Option (Int32 × mMem) :=
  p12_readLine_J46 1 M
def p12_readLine_J16 (a0 : Nat) (x1 : Int32) (x2 : Int32) (u0 : Int32) (u1 : Int32) (M : mMem) : Option (Int32 × mMem) :=
  if u0 < u1 then
    if x1 = 0 then
      (p12_readLawLine a0 x2 M).bind fun q_1 =>
      if q_1.1 = 0 then
        p12_readLine_J45 q_1.2
      else
        p12_readLine_J41 q_1.2
    else
      (p12_readFamilyLine a0 M).bind fun q_2 =>
      if q_2.1 = 0 then
        p12_readLine_J45 q_2.2
      else
        p12_readLine_J41 q_2.2
  else
    p12_readLine_J45 M
def p12_readLine (a0 : Nat) (x1 : Int32) (x2 : Int32) (M : mMem) : Option (Int32 × mMem) :=
  gd M a0 12 (
    (p12_letters a0 M).bind fun q_1 =>
    if x1 = 0 then
      p12_readLine_J16 a0 x1 x2 x2 12 q_1
    else
      p12_readLine_J16 a0 x1 x2 x2 14 q_1)
abbrev rm12_readAll : Room := { frames := 77, cells := 0, slots := 0, locals := 1733 }
def p12_readAll_L28 : Nat → Nat → Int32 → Int32 → mMem → Option (Int32 × mMem)
  | 0, _, _, _, _ => none
  | n + 1, a0, x1, x2, M =>
    (p12_readLine a0 x1 x2 M).bind fun q_1 =>
    if q_1.1 = 0 then
      some ((-1), q_1.2)
    else
      (p12_blanks a0 q_1.2).bind fun q_2 =>
      (getI q_2 a0 12 10).bind fun v_3 =>
      (getI q_2 a0 12 11).bind fun v_4 =>
      if v_3 = v_4 then
        some ((x2 + 1), q_2)
      else
        (p12_isAt a0 59 59 q_2).bind fun v_5 =>
        if v_5 = 0 then
          some ((-1), q_2)
        else
          (getI q_2 a0 12 10).bind fun v_6 =>
          (putI q_2 a0 12 10 (v_6 + 1)).bind fun M_7 =>
          (p12_readAll_L28 n) a0 x1 (x2 + 1) M_7
def p12_readAll (a0 : Nat) (x1 : Int32) (M : mMem) : Option (Int32 × mMem) :=
  gd M a0 12 (
    (p12_uses a0 M).bind fun q_1 =>
    (putI q_1 a0 12 16 0).bind fun M_2 =>
    (p12_blanks a0 M_2).bind fun q_3 =>
    (getI q_3 a0 12 10).bind fun v_4 =>
    (getI q_3 a0 12 11).bind fun v_5 =>
    if v_4 = v_5 then
      some (0, q_3)
    else
      p12_readAll_L28 gF a0 x1 0 q_3)
abbrev rm12_family : Room := { frames := 78, cells := 0, slots := 0, locals := 1755 }
def p12_family_L2 (k27 : Nat → mMem → Option (Int32 × mMem)) : Nat → Nat → Int32 → mMem → Option (Int32 × mMem)
  | 0, _, _, _ => none
  | n + 1, a0, x1, M =>
    if x1 < 1294 then
      (getR M a0 12 3).bind fun v_1 =>
      (getR M a0 12 1).bind fun v_2 =>
      (aldI M v_2 20 x1).bind fun v_3 =>
      (astI M v_1 x1 v_3).bind fun M_4 =>
      (p12_family_L2 k27 n) a0 (x1 + 1) M_4
    else
      k27 a0 M
def p12_family_L92 : Nat → Nat → Int32 → mMem → Option (Int32 × mMem)
  | 0, _, _, _ => none
  | n + 1, a0, x2, M =>
    if x2 < 1294 then
      (getR M a0 12 1).bind fun v_1 =>
      (getR M a0 12 3).bind fun v_2 =>
      (aldI M v_2 20 x2).bind fun v_3 =>
      (astI M v_1 x2 v_3).bind fun M_4 =>
      (p12_family_L92 n) a0 (x2 + 1) M_4
    else
      some (0, M)
def p12_family_J90 (a0 : Nat) (M : mMem) : Option (Int32 × mMem) :=
  p12_family_L92 gF a0 0 M
def p12_family_J83 (a0 : Nat) (b0 : Nat) (u1 : Int32) (M : mMem) : Option (Int32 × mMem) :=
  (p12_throwsIf b0 u1 2 M).bind fun q_1 =>
  if q_1.1 = 0 then
    (getR q_1.2 a0 12 1).bind fun v_2 =>
    (aldI q_1.2 v_2 20 1).bind fun v_3 =>
    (astI q_1.2 v_2 1 (v_3 + 1)).bind fun M_4 =>
    (putI M_4 a0 12 7 0).bind fun M_5 =>
    (getR M_5 a0 12 1).bind fun v_6 =>
    (aldI M_5 v_6 20 1).bind fun v_7 =>
    some (v_7, M_5)
  else
    p12_family_J90 a0 q_1.2
def p12_family_J59 (a0 : Nat) (b0 : Nat) (u1 : Int32) (M : mMem) : Option (Int32 × mMem) :=
  (p12_throwsIf b0 u1 1 M).bind fun q_1 =>
  if q_1.1 = 0 then
    (getR q_1.2 a0 12 1).bind fun v_2 =>
    (aldI q_1.2 v_2 20 1).bind fun v_3 =>
    if v_3 = 12 then
      p12_family_J83 a0 a0 1 q_1.2
    else
      p12_family_J83 a0 a0 0 q_1.2
  else
    p12_family_J90 a0 q_1.2
def p12_family_J46 (a0 : Nat) (x1 : Int32) (b0 : Nat) (u1 : Int32) (M : mMem) : Option (Int32 × mMem) :=
  (putI M b0 12 14 u1).bind fun M_1 =>
  if x1 < 0 then
    p12_family_J59 a0 a0 1 M_1
  else
    p12_family_J59 a0 a0 0 M_1
def p12_family_J27 (a0 : Nat) (M : mMem) : Option (Int32 × mMem) :=
  (p12_readAll a0 1 M).bind fun q_1 =>
  if q_1.1 < 0 then
    (getI q_1.2 a0 12 12).bind fun v_2 =>
    p12_family_J46 a0 q_1.1 a0 v_2 q_1.2
  else
    p12_family_J46 a0 q_1.1 a0 (-1) q_1.2
def p12_family (a0 : Nat) (M : mMem) : Option (Int32 × mMem) :=
  gd M a0 12 (
    p12_family_L2 p12_family_J27 gF a0 0 M)
