abbrev rm7_wouldRather : Room := { frames := 2, cells := 0, slots := 0, locals := 55 }
def p7_wouldRather_J43 (M : mMem) (u0 : Int32) : Option Int32 :=
  (bZ u0).bind fun z => some z
def p7_wouldRather_J38 (M : mMem) : Option Int32 :=
  p7_wouldRather_J43 M 1
def p7_wouldRather (a0 : Nat) (x1 : Int32) (x2 : Int32) (M : mMem) : Option Int32 :=
  gd M a0 8 (
    (getR M a0 8 0).bind fun v_1 =>
    (p2_at v_1 x1 M).bind fun v_2 =>
    (getI M v_2 9 4).bind fun v_3 =>
    if v_3 = (-1) then
      p7_wouldRather_J38 M
    else
      (getR M a0 8 0).bind fun v_4 =>
      (p2_gapOf v_4 x1 x2 M).bind fun v_5 =>
      (getR M a0 8 0).bind fun v_6 =>
      (p2_gapOf v_6 x1 v_3 M).bind fun v_7 =>
      if v_5 < v_7 then
        p7_wouldRather_J38 M
      else
        p7_wouldRather_J43 M 0)
abbrev rm7_runaways : Room := { frames := 3, cells := 0, slots := 0, locals := 78 }
def p7_runaways_J90 (M : mMem) (rec17 : Nat → Int32 → Int32 → Int32 → Option Int32) (a0 : Nat) (x1 : Int32) (x2 : Int32) (x3 : Int32) : Option Int32 :=
  rec17 a0 x1 x2 (x3 + 1)
def p7_runaways_L17 (M : mMem) (k96 : Nat → Int32 → Int32 → Option Int32) : Nat → Nat → Int32 → Int32 → Int32 → Option Int32
  | 0, _, _, _, _ => none
  | n + 1, a0, x1, x2, x3 =>
    (getR M a0 8 0).bind fun v_1 =>
    (getI M v_1 3 4).bind fun v_2 =>
    if x3 < v_2 then
      (getR M a0 8 0).bind fun v_3 =>
      (p2_at v_3 x2 M).bind fun v_4 =>
      (getI M v_4 9 2).bind fun v_5 =>
      if v_5 = 0 then
        (getR M a0 8 0).bind fun v_6 =>
        (p2_at v_6 x3 M).bind fun v_7 =>
        (getI M v_7 9 2).bind fun v_8 =>
        if v_8 = 1 then
          (getR M a0 8 0).bind fun v_9 =>
          (p2_areParentAndChild v_9 x2 x3 M).bind fun v_10 =>
          if v_10 = 0 then
            (p7_wouldRather a0 x2 x3 M).bind fun v_11 =>
            if v_11 = 0 then
              p7_runaways_J90 M (p7_runaways_L17 M k96 n) a0 x1 x2 x3
            else
              (p7_wouldRather a0 x3 x2 M).bind fun v_12 =>
              if v_12 = 0 then
                p7_runaways_J90 M (p7_runaways_L17 M k96 n) a0 x1 x2 x3
              else
                p7_runaways_J90 M (p7_runaways_L17 M k96 n) a0 (x1 + 1) x2 x3
          else
            p7_runaways_J90 M (p7_runaways_L17 M k96 n) a0 x1 x2 x3
        else
          p7_runaways_J90 M (p7_runaways_L17 M k96 n) a0 x1 x2 x3
      else
        p7_runaways_J90 M (p7_runaways_L17 M k96 n) a0 x1 x2 x3
    else
      k96 a0 x1 x2
def p7_runaways_J96 (M : mMem) (rec4 : Nat → Int32 → Int32 → Option Int32) (a0 : Nat) (x1 : Int32) (x2 : Int32) : Option Int32 :=
  rec4 a0 x1 (x2 + 1)
def p7_runaways_L4 (M : mMem) : Nat → Nat → Int32 → Int32 → Option Int32
  | 0, _, _, _ => none
  | n + 1, a0, x1, x2 =>
    (getR M a0 8 0).bind fun v_1 =>
    (getI M v_1 3 4).bind fun v_2 =>
    if x2 < v_2 then
      p7_runaways_L17 M (p7_runaways_J96 M (p7_runaways_L4 M n)) gF a0 x1 x2 0
    else
      some x1
def p7_runaways (a0 : Nat) (M : mMem) : Option Int32 :=
  gd M a0 8 (
    p7_runaways_L4 M gF a0 0 0)
abbrev rm9_isLetter : Room := { frames := 0, cells := 0, slots := 0, locals := 0 }
def p9_isLetter_J17 (M : mMem) (u0 : Int32) : Option Int32 :=
  (bZ u0).bind fun z => some z
def p9_isLetter_J16 (M : mMem) : Option Int32 :=
  p9_isLetter_J17 M 0
def p9_isLetter (x0 : Int32) (M : mMem) : Option Int32 :=
  if x0 < 97 then
    p9_isLetter_J16 M
  else
    if 122 < x0 then
      p9_isLetter_J16 M
    else
      p9_isLetter_J17 M 1
abbrev rm9_isDigit : Room := { frames := 0, cells := 0, slots := 0, locals := 0 }
def p9_isDigit_J17 (M : mMem) (u0 : Int32) : Option Int32 :=
  (bZ u0).bind fun z => some z
def p9_isDigit_J16 (M : mMem) : Option Int32 :=
  p9_isDigit_J17 M 0
def p9_isDigit (x0 : Int32) (M : mMem) : Option Int32 :=
  if x0 < 48 then
    p9_isDigit_J16 M
  else
    if 57 < x0 then
      p9_isDigit_J16 M
    else
      p9_isDigit_J17 M 1
abbrev rm3_endOfThing : Room := { frames := 1, cells := 0, slots := 0, locals := 20 }
def p3_endOfThing_J72 (M : mMem) (a0 : Nat) : Option Int32 :=
  (getI M a0 4 5).bind fun v_1 =>
  some v_1
def p3_endOfThing_J57 (M : mMem) (rec2 : Nat → Nat → Int32 → Int32 → Option Int32) (a0 : Nat) (a1 : Nat) (x2 : Int32) (x3 : Int32) (u0 : Int32) : Option Int32 :=
  if u0 = 0 then
    some x3
  else
    rec2 a0 a1 x2 (x3 + 1)
def p3_endOfThing_J56 (M : mMem) (rec2 : Nat → Nat → Int32 → Int32 → Option Int32) (a0 : Nat) (a1 : Nat) (x2 : Int32) (x3 : Int32) : Option Int32 :=
  p3_endOfThing_J57 M rec2 a0 a1 x2 x3 0
def p3_endOfThing_J52 (M : mMem) (rec2 : Nat → Nat → Int32 → Int32 → Option Int32) (a0 : Nat) (a1 : Nat) (x2 : Int32) (x3 : Int32) : Option Int32 :=
  p3_endOfThing_J57 M rec2 a0 a1 x2 x3 1
def p3_endOfThing_J34 (M : mMem) (rec2 : Nat → Nat → Int32 → Int32 → Option Int32) (a0 : Nat) (a1 : Nat) (x2 : Int32) (x3 : Int32) : Option Int32 :=
  (aldI M a1 20 x2).bind fun v_1 =>
  (p9_isDigit v_1 M).bind fun v_2 =>
  if v_2 = 0 then
    p3_endOfThing_J56 M rec2 a0 a1 x2 x3
  else
    (aldI M a1 20 x3).bind fun v_3 =>
    (p9_isDigit v_3 M).bind fun v_4 =>
    if v_4 = 0 then
      p3_endOfThing_J56 M rec2 a0 a1 x2 x3
    else
      p3_endOfThing_J52 M rec2 a0 a1 x2 x3
def p3_endOfThing_L2 (M : mMem) : Nat → Nat → Nat → Int32 → Int32 → Option Int32
  | 0, _, _, _, _ => none
  | n + 1, a0, a1, x2, x3 =>
    (getI M a0 4 5).bind fun v_1 =>
    if x3 < v_1 then
      (lenA M a1).bind fun v_2 =>
      if x3 < v_2 then
        (aldI M a1 20 x2).bind fun v_3 =>
        (p9_isLetter v_3 M).bind fun v_4 =>
        if v_4 = 0 then
          p3_endOfThing_J34 M (p3_endOfThing_L2 M n) a0 a1 x2 x3
        else
          (aldI M a1 20 x3).bind fun v_5 =>
          (p9_isLetter v_5 M).bind fun v_6 =>
          if v_6 = 0 then
            p3_endOfThing_J34 M (p3_endOfThing_L2 M n) a0 a1 x2 x3
          else
            p3_endOfThing_J52 M (p3_endOfThing_L2 M n) a0 a1 x2 x3
      else
        p3_endOfThing_J72 M a0
    else
      p3_endOfThing_J72 M a0
def p3_endOfThing (a0 : Nat) (a1 : Nat) (x2 : Int32) (M : mMem) : Option Int32 :=
  gd M a0 4 (
    p3_endOfThing_L2 M gF a0 a1 x2 x2)
abbrev rm9_reads : Room := { frames := 6, cells := 0, slots := 0, locals := 240 }
def p9_reads_J20 (M : mMem) : Option Int32 :=
  some 0
def p9_reads_L25 (M : mMem) : Nat → Nat → Int32 → Nat → Int32 → Option Int32
  | 0, _, _, _, _ => none
  | n + 1, a0, x1, s3, x4 =>
    (sLen s3).bind fun v_1 =>
    if x4 < v_1 then
      (aldI M a0 20 (x1 + x4)).bind fun v_2 =>
      (sAt s3 x4).bind fun v_3 =>
      if v_2 = v_3 then
        (p9_reads_L25 M n) a0 x1 s3 (x4 + 1)
      else
        some 0
    else
      some 1
def p9_reads (a0 : Nat) (x1 : Int32) (x2 : Int32) (s3 : Nat) (M : mMem) : Option Int32 :=
  (sLen s3).bind fun v_1 =>
  if (x2 - x1) = v_1 then
    if x1 < 0 then
      p9_reads_J20 M
    else
      (lenA M a0).bind fun v_2 =>
      if v_2 < x2 then
        p9_reads_J20 M
      else
        p9_reads_L25 M gF a0 x1 s3 0
  else
    p9_reads_J20 M
abbrev rm9_wordOf : Room := { frames := 7, cells := 0, slots := 0, locals := 264 }
def p9_wordOf (a0 : Nat) (x1 : Int32) (x2 : Int32) (M : mMem) : Option Int32 :=
  (p9_reads a0 x1 x2 0 M).bind fun v_1 =>
  if v_1 = 0 then
    (p9_reads a0 x1 x2 1 M).bind fun v_2 =>
    if v_2 = 0 then
      (p9_reads a0 x1 x2 2 M).bind fun v_3 =>
      if v_3 = 0 then
        (p9_reads a0 x1 x2 3 M).bind fun v_4 =>
        if v_4 = 0 then
          (p9_reads a0 x1 x2 4 M).bind fun v_5 =>
          if v_5 = 0 then
            (p9_reads a0 x1 x2 5 M).bind fun v_6 =>
            if v_6 = 0 then
              (p9_reads a0 x1 x2 6 M).bind fun v_7 =>
              if v_7 = 0 then
                (p9_reads a0 x1 x2 7 M).bind fun v_8 =>
                if v_8 = 0 then
                  (p9_reads a0 x1 x2 8 M).bind fun v_9 =>
                  if v_9 = 0 then
                    (p9_reads a0 x1 x2 9 M).bind fun v_10 =>
                    if v_10 = 0 then
                      (p9_reads a0 x1 x2 10 M).bind fun v_11 =>
                      if v_11 = 0 then
                        (p9_reads a0 x1 x2 11 M).bind fun v_12 =>
                        if v_12 = 0 then
                          (p9_reads a0 x1 x2 12 M).bind fun v_13 =>
                          if v_13 = 0 then
                            (p9_reads a0 x1 x2 13 M).bind fun v_14 =>
                            if v_14 = 0 then
                              (p9_reads a0 x1 x2 14 M).bind fun v_15 =>
                              if v_15 = 0 then
                                (p9_reads a0 x1 x2 15 M).bind fun v_16 =>
                                if v_16 = 0 then
                                  (p9_reads a0 x1 x2 16 M).bind fun v_17 =>
                                  if v_17 = 0 then
                                    (p9_reads a0 x1 x2 17 M).bind fun v_18 =>
                                    if v_18 = 0 then
                                      (p9_reads a0 x1 x2 18 M).bind fun v_19 =>
                                      if v_19 = 0 then
                                        (p9_reads a0 x1 x2 19 M).bind fun v_20 =>
                                        if v_20 = 0 then
                                          (p9_reads a0 x1 x2 20 M).bind fun v_21 =>
                                          if v_21 = 0 then
                                            (p9_reads a0 x1 x2 21 M).bind fun v_22 =>
                                            if v_22 = 0 then
                                              (p9_reads a0 x1 x2 22 M).bind fun v_23 =>
                                              if v_23 = 0 then
                                                (p9_reads a0 x1 x2 23 M).bind fun v_24 =>
                                                if v_24 = 0 then
                                                  (p9_reads a0 x1 x2 24 M).bind fun v_25 =>
                                                  if v_25 = 0 then
                                                    (p9_reads a0 x1 x2 25 M).bind fun v_26 =>
                                                    if v_26 = 0 then
                                                      (p9_reads a0 x1 x2 26 M).bind fun v_27 =>
                                                      if v_27 = 0 then
                                                        some 0
                                                      else
                                                        some 29
                                                    else
                                                      some 28
                                                  else
                                                    some 27
                                                else
                                                  some 26
                                              else
                                                some 25
                                            else
                                              some 24
                                          else
                                            some 23
                                        else
                                          some 22
                                      else
                                        some 21
                                    else
                                      some 20
                                  else
                                    some 19
                                else
                                  some 18
                              else
                                some 17
                            else
                              some 16
                          else
                            some 15
                        else
                          some 14
                      else
                        some 13
                    else
                      some 12
                  else
                    some 11
                else
                  some 10
              else
                some 9
            else
              some 8
          else
            some 7
        else
          some 6
      else
        some 5
    else
      some 4
  else
    some 3
abbrev rm9_numberOf : Room := { frames := 0, cells := 0, slots := 0, locals := 0 }
def p9_numberOf_J37 (M : mMem) (x3 : Int32) : Option Int32 :=
  some x3
def p9_numberOf_L5 (M : mMem) : Nat → Nat → Int32 → Int32 → Int32 → Option Int32
  | 0, _, _, _, _ => none
  | n + 1, a0, x2, x3, x4 =>
    if x4 < x2 then
      (lenA M a0).bind fun v_1 =>
      if x4 < v_1 then
        (aldI M a0 20 x4).bind fun v_2 =>
        (p9_numberOf_L5 M n) a0 x2 ((((10 : Int32) * x3) + v_2) - 48) (x4 + 1)
      else
        p9_numberOf_J37 M x3
    else
      p9_numberOf_J37 M x3
def p9_numberOf (a0 : Nat) (x1 : Int32) (x2 : Int32) (M : mMem) : Option Int32 :=
  p9_numberOf_L5 M gF a0 x2 0 x1
abbrev rm9_isSign : Room := { frames := 0, cells := 0, slots := 0, locals := 0 }
def p9_isSign_J41 (M : mMem) (u0 : Int32) : Option Int32 :=
  (bZ u0).bind fun z => some z
def p9_isSign_J36 (M : mMem) : Option Int32 :=
  p9_isSign_J41 M 1
def p9_isSign (x0 : Int32) (M : mMem) : Option Int32 :=
  if x0 = 59 then
    p9_isSign_J36 M
  else
    if x0 = 40 then
      p9_isSign_J36 M
    else
      if x0 = 41 then
        p9_isSign_J36 M
      else
        if x0 = 60 then
          p9_isSign_J36 M
        else
          if x0 = 62 then
            p9_isSign_J36 M
          else
            if x0 = 43 then
              p9_isSign_J36 M
            else
              p9_isSign_J41 M 0
abbrev rm3_addThing : Room := { frames := 8, cells := 0, slots := 0, locals := 286 }
def p3_addThing_J19 (M : mMem) : Option mMem :=
  some M
def p3_addThing_J151 (a0 : Nat) (M : mMem) : Option mMem :=
  (getI M a0 4 4).bind fun v_1 =>
  (putI M a0 4 4 (v_1 + 1)).bind fun M_2 =>
  some M_2
def p3_addThing_J150 (a0 : Nat) (b0 : Nat) (u1 : Int32) (u2 : Int32) (M : mMem) : Option mMem :=
  (astI M b0 u1 u2).bind fun M_1 =>
  p3_addThing_J151 a0 M_1
def p3_addThing_J122 (a0 : Nat) (b0 : Nat) (u1 : Int32) (u2 : Int32) (M : mMem) : Option mMem :=
  (astI M b0 u1 u2).bind fun M_1 =>
  p3_addThing_J151 a0 M_1
def p3_addThing_J96 (a0 : Nat) (a1 : Nat) (x2 : Int32) (x3 : Int32) (b0 : Nat) (u1 : Int32) (u2 : Int32) (M : mMem) : Option mMem :=
  (astI M b0 u1 u2).bind fun M_1 =>
  (getR M_1 a0 4 2).bind fun v_2 =>
  (getI M_1 a0 4 4).bind fun v_3 =>
  if 3 < (x3 - x2) then
    p3_addThing_J122 a0 v_2 v_3 0 M_1
  else
    (p9_numberOf a1 x2 x3 M_1).bind fun v_4 =>
    p3_addThing_J122 a0 v_2 v_3 v_4 M_1
def p3_addThing (a0 : Nat) (a1 : Nat) (x2 : Int32) (x3 : Int32) (M : mMem) : Option mMem :=
  gd M a0 4 (
    (getI M a0 4 4).bind fun v_1 =>
    if v_1 < 0 then
      p3_addThing_J19 M
    else
      (getI M a0 4 4).bind fun v_2 =>
      (getR M a0 4 0).bind fun v_3 =>
      (lenA M v_3).bind fun v_4 =>
      if v_2 < v_4 then
        (getR M a0 4 1).bind fun v_5 =>
        (getI M a0 4 4).bind fun v_6 =>
        (astI M v_5 v_6 x2).bind fun M_7 =>
        (getR M_7 a0 4 2).bind fun v_8 =>
        (getI M_7 a0 4 4).bind fun v_9 =>
        (astI M_7 v_8 v_9 0).bind fun M_10 =>
        (aldI M_10 a1 20 x2).bind fun v_11 =>
        (p9_isLetter v_11 M_10).bind fun v_12 =>
        if v_12 = 0 then
          (aldI M_10 a1 20 x2).bind fun v_13 =>
          (p9_isDigit v_13 M_10).bind fun v_14 =>
          if v_14 = 0 then
            (getR M_10 a0 4 0).bind fun v_15 =>
            (getI M_10 a0 4 4).bind fun v_16 =>
            (aldI M_10 a1 20 x2).bind fun v_17 =>
            (p9_isSign v_17 M_10).bind fun v_18 =>
            if v_18 = 0 then
              p3_addThing_J150 a0 v_15 v_16 0 M_10
            else
              (aldI M_10 a1 20 x2).bind fun v_19 =>
              p3_addThing_J150 a0 v_15 v_16 v_19 M_10
          else
            (getR M_10 a0 4 0).bind fun v_20 =>
            (getI M_10 a0 4 4).bind fun v_21 =>
            if 3 < (x3 - x2) then
              p3_addThing_J96 a0 a1 x2 x3 v_20 v_21 0 M_10
            else
              p3_addThing_J96 a0 a1 x2 x3 v_20 v_21 2 M_10
        else
          (getR M_10 a0 4 0).bind fun v_22 =>
          (getI M_10 a0 4 4).bind fun v_23 =>
          (p9_wordOf a1 x2 x3 M_10).bind fun v_24 =>
          (astI M_10 v_22 v_23 v_24).bind fun M_25 =>
          p3_addThing_J151 a0 M_25
      else
        p3_addThing_J19 M)
abbrev rm3_partText : Room := { frames := 9, cells := 0, slots := 0, locals := 309 }
def p3_partText_J56 (rec15 : Nat → Nat → Int32 → mMem → Option mMem) (a0 : Nat) (a1 : Nat) (x3 : Int32) (x4 : Int32) (M : mMem) : Option mMem :=
  rec15 a0 a1 (maxI (x4 + 1) x3) M
def p3_partText_L15 : Nat → Nat → Nat → Int32 → mMem → Option mMem
  | 0, _, _, _, _ => none
  | n + 1, a0, a1, x4, M =>
    (getI M a0 4 5).bind fun v_1 =>
    if x4 < v_1 then
      (p3_endOfThing a0 a1 x4 M).bind fun v_2 =>
      (aldI M a1 20 x4).bind fun v_3 =>
      if v_3 = 32 then
        p3_partText_J56 (p3_partText_L15 n) a0 a1 v_2 x4 M
      else
        (p3_addThing a0 a1 x4 (maxI (x4 + 1) v_2) M).bind fun q_4 =>
        p3_partText_J56 (p3_partText_L15 n) a0 a1 v_2 x4 q_4
    else
      some M
def p3_partText (a0 : Nat) (a1 : Nat) (x2 : Int32) (M : mMem) : Option mMem :=
  gd M a0 4 (
    (putI M a0 4 4 0).bind fun M_1 =>
    (putI M_1 a0 4 5 x2).bind fun M_2 =>
    p3_partText_L15 gF a0 a1 0 M_2)
abbrev rm3_beginOfNext : Room := { frames := 0, cells := 0, slots := 0, locals := 0 }
def p3_beginOfNext_J46 (M : mMem) (u0 : Int32) : Option Int32 :=
  some u0
def p3_beginOfNext_J42 (M : mMem) (a0 : Nat) : Option Int32 :=
  (getI M a0 4 5).bind fun v_1 =>
  p3_beginOfNext_J46 M v_1
def p3_beginOfNext (a0 : Nat) (M : mMem) : Option Int32 :=
  gd M a0 4 (
    (getI M a0 4 6).bind fun v_1 =>
    if v_1 < 0 then
      p3_beginOfNext_J42 M a0
    else
      (getI M a0 4 6).bind fun v_2 =>
      (getI M a0 4 4).bind fun v_3 =>
      if v_2 < v_3 then
        (getI M a0 4 6).bind fun v_4 =>
        (getR M a0 4 1).bind fun v_5 =>
        (lenA M v_5).bind fun v_6 =>
        if v_4 < v_6 then
          (getR M a0 4 1).bind fun v_7 =>
          (getI M a0 4 6).bind fun v_8 =>
          (aldI M v_7 20 v_8).bind fun v_9 =>
          p3_beginOfNext_J46 M v_9
        else
          p3_beginOfNext_J42 M a0
      else
        p3_beginOfNext_J42 M a0)
abbrev rm3_readText : Room := { frames := 10, cells := 0, slots := 0, locals := 333 }
def p3_readText_L28 : Nat → Nat → Int32 → mMem → Option (Int32 × mMem)
  | 0, _, _, _ => none
  | n + 1, a0, x3, M =>
    (getI M a0 4 3).bind fun v_1 =>
    if x3 < v_1 then
      (p3_readLine a0 M).bind fun q_3 =>
      if q_3.1 = 0 then
        (p3_beginOfNext a0 q_3.2).bind fun v_7 =>
        some (v_7, q_3.2)
      else
        (p3_next a0 q_3.2).bind fun v_4 =>
        if v_4 = 1 then
          some ((-1), q_3.2)
        else
          (p3_took a0 59 q_3.2).bind fun q_5 =>
          if q_5.1 = 0 then
            (p3_beginOfNext a0 q_5.2).bind fun v_6 =>
            some (v_6, q_5.2)
          else
            (p3_readText_L28 n) a0 (x3 + 1) q_5.2
    else
      (p3_beginOfNext a0 M).bind fun v_2 =>
      some (v_2, M)
def p3_readText (a0 : Nat) (a1 : Nat) (x2 : Int32) (M : mMem) : Option (Int32 × mMem) :=
  gd M a0 4 (
    (lenA M a1).bind fun v_1 =>
    (p3_partText a0 a1 (minI x2 v_1) M).bind fun q_2 =>
    (putI q_2 a0 4 6 0).bind fun M_3 =>
    (p3_next a0 M_3).bind fun v_4 =>
    if v_4 = 1 then
      some ((-1), M_3)
    else
      p3_readText_L28 gF a0 0 M_3)
abbrev rm5_endOfThing : Room := { frames := 1, cells := 0, slots := 0, locals := 20 }
def p5_endOfThing_J72 (M : mMem) (a0 : Nat) : Option Int32 :=
  (getI M a0 6 5).bind fun v_1 =>
  some v_1
def p5_endOfThing_J57 (M : mMem) (rec2 : Nat → Nat → Int32 → Int32 → Option Int32) (a0 : Nat) (a1 : Nat) (x2 : Int32) (x3 : Int32) (u0 : Int32) : Option Int32 :=
  if u0 = 0 then
    some x3
  else
    rec2 a0 a1 x2 (x3 + 1)
def p5_endOfThing_J56 (M : mMem) (rec2 : Nat → Nat → Int32 → Int32 → Option Int32) (a0 : Nat) (a1 : Nat) (x2 : Int32) (x3 : Int32) : Option Int32 :=
  p5_endOfThing_J57 M rec2 a0 a1 x2 x3 0
def p5_endOfThing_J52 (M : mMem) (rec2 : Nat → Nat → Int32 → Int32 → Option Int32) (a0 : Nat) (a1 : Nat) (x2 : Int32) (x3 : Int32) : Option Int32 :=
  p5_endOfThing_J57 M rec2 a0 a1 x2 x3 1
def p5_endOfThing_J34 (M : mMem) (rec2 : Nat → Nat → Int32 → Int32 → Option Int32) (a0 : Nat) (a1 : Nat) (x2 : Int32) (x3 : Int32) : Option Int32 :=
  (aldI M a1 20 x2).bind fun v_1 =>
  (p9_isDigit v_1 M).bind fun v_2 =>
  if v_2 = 0 then
    p5_endOfThing_J56 M rec2 a0 a1 x2 x3
  else
    (aldI M a1 20 x3).bind fun v_3 =>
    (p9_isDigit v_3 M).bind fun v_4 =>
    if v_4 = 0 then
      p5_endOfThing_J56 M rec2 a0 a1 x2 x3
    else
      p5_endOfThing_J52 M rec2 a0 a1 x2 x3
def p5_endOfThing_L2 (M : mMem) : Nat → Nat → Nat → Int32 → Int32 → Option Int32
  | 0, _, _, _, _ => none
  | n + 1, a0, a1, x2, x3 =>
    (getI M a0 6 5).bind fun v_1 =>
    if x3 < v_1 then
      (lenA M a1).bind fun v_2 =>
      if x3 < v_2 then
        (aldI M a1 20 x2).bind fun v_3 =>
        (p9_isLetter v_3 M).bind fun v_4 =>
        if v_4 = 0 then
          p5_endOfThing_J34 M (p5_endOfThing_L2 M n) a0 a1 x2 x3
        else
          (aldI M a1 20 x3).bind fun v_5 =>
          (p9_isLetter v_5 M).bind fun v_6 =>
          if v_6 = 0 then
            p5_endOfThing_J34 M (p5_endOfThing_L2 M n) a0 a1 x2 x3
          else
            p5_endOfThing_J52 M (p5_endOfThing_L2 M n) a0 a1 x2 x3
      else
        p5_endOfThing_J72 M a0
    else
      p5_endOfThing_J72 M a0
def p5_endOfThing (a0 : Nat) (a1 : Nat) (x2 : Int32) (M : mMem) : Option Int32 :=
  gd M a0 6 (
    p5_endOfThing_L2 M gF a0 a1 x2 x2)
abbrev rm5_addThing : Room := { frames := 8, cells := 0, slots := 0, locals := 286 }
def p5_addThing_J19 (M : mMem) : Option mMem :=
  some M
def p5_addThing_J151 (a0 : Nat) (M : mMem) : Option mMem :=
  (getI M a0 6 4).bind fun v_1 =>
  (putI M a0 6 4 (v_1 + 1)).bind fun M_2 =>
  some M_2
def p5_addThing_J150 (a0 : Nat) (b0 : Nat) (u1 : Int32) (u2 : Int32) (M : mMem) : Option mMem :=
  (astI M b0 u1 u2).bind fun M_1 =>
  p5_addThing_J151 a0 M_1
def p5_addThing_J122 (a0 : Nat) (b0 : Nat) (u1 : Int32) (u2 : Int32) (M : mMem) : Option mMem :=
  (astI M b0 u1 u2).bind fun M_1 =>
  p5_addThing_J151 a0 M_1
def p5_addThing_J96 (a0 : Nat) (a1 : Nat) (x2 : Int32) (x3 : Int32) (b0 : Nat) (u1 : Int32) (u2 : Int32) (M : mMem) : Option mMem :=
  (astI M b0 u1 u2).bind fun M_1 =>
  (getR M_1 a0 6 2).bind fun v_2 =>
  (getI M_1 a0 6 4).bind fun v_3 =>
  if 3 < (x3 - x2) then
    p5_addThing_J122 a0 v_2 v_3 0 M_1
  else
    (p9_numberOf a1 x2 x3 M_1).bind fun v_4 =>
    p5_addThing_J122 a0 v_2 v_3 v_4 M_1
def p5_addThing (a0 : Nat) (a1 : Nat) (x2 : Int32) (x3 : Int32) (M : mMem) : Option mMem :=
  gd M a0 6 (
    (getI M a0 6 4).bind fun v_1 =>
    if v_1 < 0 then
      p5_addThing_J19 M
    else
      (getI M a0 6 4).bind fun v_2 =>
      (getR M a0 6 0).bind fun v_3 =>
      (lenA M v_3).bind fun v_4 =>
      if v_2 < v_4 then
        (getR M a0 6 1).bind fun v_5 =>
        (getI M a0 6 4).bind fun v_6 =>
        (astI M v_5 v_6 x2).bind fun M_7 =>
        (getR M_7 a0 6 2).bind fun v_8 =>
        (getI M_7 a0 6 4).bind fun v_9 =>
        (astI M_7 v_8 v_9 0).bind fun M_10 =>
        (aldI M_10 a1 20 x2).bind fun v_11 =>
        (p9_isLetter v_11 M_10).bind fun v_12 =>
        if v_12 = 0 then
          (aldI M_10 a1 20 x2).bind fun v_13 =>
          (p9_isDigit v_13 M_10).bind fun v_14 =>
          if v_14 = 0 then
            (getR M_10 a0 6 0).bind fun v_15 =>
            (getI M_10 a0 6 4).bind fun v_16 =>
            (aldI M_10 a1 20 x2).bind fun v_17 =>
            (p9_isSign v_17 M_10).bind fun v_18 =>
            if v_18 = 0 then
              p5_addThing_J150 a0 v_15 v_16 0 M_10
            else
              (aldI M_10 a1 20 x2).bind fun v_19 =>
              p5_addThing_J150 a0 v_15 v_16 v_19 M_10
          else
            (getR M_10 a0 6 0).bind fun v_20 =>
            (getI M_10 a0 6 4).bind fun v_21 =>
            if 3 < (x3 - x2) then
              p5_addThing_J96 a0 a1 x2 x3 v_20 v_21 0 M_10
            else
              p5_addThing_J96 a0 a1 x2 x3 v_20 v_21 2 M_10
        else
          (getR M_10 a0 6 0).bind fun v_22 =>
          (getI M_10 a0 6 4).bind fun v_23 =>
          (p9_wordOf a1 x2 x3 M_10).bind fun v_24 =>
          (astI M_10 v_22 v_23 v_24).bind fun M_25 =>
          p5_addThing_J151 a0 M_25
      else
        p5_addThing_J19 M)
abbrev rm5_partText : Room := { frames := 9, cells := 0, slots := 0, locals := 309 }
def p5_partText_J56 (rec15 : Nat → Nat → Int32 → mMem → Option mMem) (a0 : Nat) (a1 : Nat) (x3 : Int32) (x4 : Int32) (M : mMem) : Option mMem :=
  rec15 a0 a1 (maxI (x4 + 1) x3) M
def p5_partText_L15 : Nat → Nat → Nat → Int32 → mMem → Option mMem
  | 0, _, _, _, _ => none
  | n + 1, a0, a1, x4, M =>
    (getI M a0 6 5).bind fun v_1 =>
    if x4 < v_1 then
      (p5_endOfThing a0 a1 x4 M).bind fun v_2 =>
      (aldI M a1 20 x4).bind fun v_3 =>
      if v_3 = 32 then
        p5_partText_J56 (p5_partText_L15 n) a0 a1 v_2 x4 M
      else
        (p5_addThing a0 a1 x4 (maxI (x4 + 1) v_2) M).bind fun q_4 =>
        p5_partText_J56 (p5_partText_L15 n) a0 a1 v_2 x4 q_4
    else
      some M
def p5_partText (a0 : Nat) (a1 : Nat) (x2 : Int32) (M : mMem) : Option mMem :=
  gd M a0 6 (
    (putI M a0 6 4 0).bind fun M_1 =>
    (putI M_1 a0 6 5 x2).bind fun M_2 =>
    p5_partText_L15 gF a0 a1 0 M_2)
abbrev rm5_beginOfNext : Room := { frames := 0, cells := 0, slots := 0, locals := 0 }
def p5_beginOfNext_J46 (M : mMem) (u0 : Int32) : Option Int32 :=
  some u0
def p5_beginOfNext_J42 (M : mMem) (a0 : Nat) : Option Int32 :=
  (getI M a0 6 5).bind fun v_1 =>
  p5_beginOfNext_J46 M v_1
def p5_beginOfNext (a0 : Nat) (M : mMem) : Option Int32 :=
  gd M a0 6 (
    (getI M a0 6 6).bind fun v_1 =>
    if v_1 < 0 then
      p5_beginOfNext_J42 M a0
    else
      (getI M a0 6 6).bind fun v_2 =>
      (getI M a0 6 4).bind fun v_3 =>
      if v_2 < v_3 then
        (getI M a0 6 6).bind fun v_4 =>
        (getR M a0 6 1).bind fun v_5 =>
        (lenA M v_5).bind fun v_6 =>
        if v_4 < v_6 then
          (getR M a0 6 1).bind fun v_7 =>
          (getI M a0 6 6).bind fun v_8 =>
          (aldI M v_7 20 v_8).bind fun v_9 =>
          p5_beginOfNext_J46 M v_9
        else
          p5_beginOfNext_J42 M a0
      else
        p5_beginOfNext_J42 M a0)
abbrev rm5_readText : Room := { frames := 70, cells := 0, slots := 0, locals := 1537 }
def p5_readText_L28 : Nat → Nat → Int32 → mMem → Option (Int32 × mMem)
  | 0, _, _, _ => none
  | n + 1, a0, x3, M =>
    (getI M a0 6 3).bind fun v_1 =>
    if x3 < v_1 then
      (p5_readLine a0 M).bind fun q_3 =>
      if q_3.1 = 0 then
        (p5_beginOfNext a0 q_3.2).bind fun v_7 =>
        some (v_7, q_3.2)
      else
        (p5_next a0 q_3.2).bind fun v_4 =>
        if v_4 = 1 then
          some ((-1), q_3.2)
        else
          (p5_took a0 59 q_3.2).bind fun q_5 =>
          if q_5.1 = 0 then
            (p5_beginOfNext a0 q_5.2).bind fun v_6 =>
            some (v_6, q_5.2)
          else
            (p5_readText_L28 n) a0 (x3 + 1) q_5.2
    else
      (p5_beginOfNext a0 M).bind fun v_2 =>
      some (v_2, M)
def p5_readText (a0 : Nat) (a1 : Nat) (x2 : Int32) (M : mMem) : Option (Int32 × mMem) :=
  gd M a0 6 (
    (lenA M a1).bind fun v_1 =>
    (p5_partText a0 a1 (minI x2 v_1) M).bind fun q_2 =>
    (putI q_2 a0 6 6 0).bind fun M_3 =>
    (p5_next a0 M_3).bind fun v_4 =>
    if v_4 = 1 then
      some ((-1), M_3)
    else
      p5_readText_L28 gF a0 0 M_3)
abbrev rm10_init : Room := { frames := 1, cells := 0, slots := 0, locals := 32 }
def p10_init (a0 : Nat) (a1 : Nat) (M : mMem) : Option mMem :=
  gd M a0 10 (
    (putR M a0 10 0 a1).bind fun M_1 =>
    some M_1)
abbrev rm10_netDebts : Room := { frames := 2, cells := 0, slots := 0, locals := 43 }
def p10_netDebts_L20 (M : mMem) (k62 : Nat → Int32 → Int32 → Int32 → Option Int32) : Nat → Nat → Int32 → Int32 → Int32 → Int32 → Option Int32
  | 0, _, _, _, _, _ => none
  | n + 1, a0, x1, x2, x3, x4 =>
    (getR M a0 10 0).bind fun v_1 =>
    (getI M v_1 3 4).bind fun v_2 =>
    if x4 < v_2 then
      (getR M a0 10 0).bind fun v_3 =>
      (p2_lentBy v_3 x2 x4 M).bind fun v_4 =>
      (getR M a0 10 0).bind fun v_5 =>
      (p2_lentBy v_5 x4 x2 M).bind fun v_6 =>
      (p10_netDebts_L20 M k62 n) a0 x1 x2 (x3 + (v_4 - v_6)) (x4 + 1)
    else
      k62 a0 x1 x2 x3
def p10_netDebts_J62 (M : mMem) (rec4 : Nat → Int32 → Int32 → Option Int32) (a0 : Nat) (x1 : Int32) (x2 : Int32) (x3 : Int32) : Option Int32 :=
  rec4 a0 (x1 + (maxI 0 x3)) (x2 + 1)
def p10_netDebts_L4 (M : mMem) : Nat → Nat → Int32 → Int32 → Option Int32
  | 0, _, _, _ => none
  | n + 1, a0, x1, x2 =>
    (getR M a0 10 0).bind fun v_1 =>
    (getI M v_1 3 4).bind fun v_2 =>
    if x2 < v_2 then
      p10_netDebts_L20 M (p10_netDebts_J62 M (p10_netDebts_L4 M n)) gF a0 x1 x2 0 0
    else
      some x1
def p10_netDebts (a0 : Nat) (M : mMem) : Option Int32 :=
  gd M a0 10 (
    p10_netDebts_L4 M gF a0 0 0)
