abbrev rm12_law : Room := { frames := 78, cells := 0, slots := 0, locals := 1755 }
def p12_law_L52 : Nat → Nat → Int32 → Int32 → mMem → Option (Int32 × mMem)
  | 0, _, _, _, _ => none
  | n + 1, a0, x1, x2, M =>
    if x2 < 849 then
      (getR M a0 12 1).bind fun v_4 =>
      (getR M a0 12 1).bind fun v_5 =>
      (aldI M v_5 20 ((1294 : Int32) + x2)).bind fun v_6 =>
      (astI M v_4 ((445 : Int32) + x2) v_6).bind fun M_7 =>
      (p12_law_L52 n) a0 x1 (x2 + 1) M_7
    else
      (getR M a0 12 1).bind fun v_1 =>
      (astI M v_1 2 1).bind fun M_2 =>
      (putI M_2 a0 12 7 0).bind fun M_3 =>
      some (x1, M_3)
def p12_law_J32 (a0 : Nat) (x1 : Int32) (b0 : Nat) (u1 : Int32) (M : mMem) : Option (Int32 × mMem) :=
  (p12_throwsIf b0 u1 1 M).bind fun q_1 =>
  if q_1.1 = 0 then
    (getR q_1.2 a0 12 1).bind fun v_2 =>
    (astI q_1.2 v_2 1294 x1).bind fun M_3 =>
    p12_law_L52 gF a0 x1 0 M_3
  else
    some (0, q_1.2)
def p12_law_J19 (a0 : Nat) (x1 : Int32) (b0 : Nat) (u1 : Int32) (M : mMem) : Option (Int32 × mMem) :=
  (putI M b0 12 14 u1).bind fun M_1 =>
  if x1 < 0 then
    p12_law_J32 a0 x1 a0 1 M_1
  else
    p12_law_J32 a0 x1 a0 0 M_1
def p12_law (a0 : Nat) (M : mMem) : Option (Int32 × mMem) :=
  gd M a0 12 (
    (p12_readAll a0 0 M).bind fun q_1 =>
    if q_1.1 < 0 then
      (getI q_1.2 a0 12 12).bind fun v_2 =>
      p12_law_J19 a0 q_1.1 a0 v_2 q_1.2
    else
      p12_law_J19 a0 q_1.1 a0 (-1) q_1.2)
abbrev rm12_factOf : Room := { frames := 3, cells := 0, slots := 0, locals := 65 }
def p12_factOf_J105 (M : mMem) (u0 : Int32) : Option Int32 :=
  some u0
def p12_factOf_J121 (M : mMem) (u0 : Int32) : Option Int32 :=
  some u0
def p12_factOf_J143 (M : mMem) (u0 : Int32) : Option Int32 :=
  some u0
def p12_factOf (a0 : Nat) (x1 : Int32) (x2 : Int32) (x3 : Int32) (x4 : Int32) (M : mMem) : Option Int32 :=
  gd M a0 12 (
    swI x1 (
      some x2) [(0,
      some x3), (1,
      some x4), (2,
      (p12_of a0 x4 0 M).bind fun v_1 =>
      some v_1), (3,
      (p12_of a0 x3 0 M).bind fun v_2 =>
      some v_2), (4,
      (p12_of a0 x4 1 M).bind fun v_3 =>
      some (maxI 0 v_3)), (5,
      (getR M a0 12 1).bind fun v_4 =>
      (aldI M v_4 20 3).bind fun v_5 =>
      some v_5), (6,
      (p12_isSingle a0 x4 M).bind fun v_6 =>
      if v_6 = 0 then
        p12_factOf_J105 M 1
      else
        p12_factOf_J105 M 0), (7,
      (p12_isParent a0 x3 x4 M).bind fun v_7 =>
      if v_7 = 0 then
        p12_factOf_J121 M 0
      else
        p12_factOf_J121 M 1), (8,
      (p12_of a0 x4 0 M).bind fun v_8 =>
      (getR M a0 12 1).bind fun v_9 =>
      (aldI M v_9 20 5).bind fun v_10 =>
      if v_8 < v_10 then
        p12_factOf_J143 M 1
      else
        p12_factOf_J143 M 0)])
abbrev rm12_holdsLine : Room := { frames := 4, cells := 0, slots := 0, locals := 89 }
def p12_holdsLine_J265 (rec23 : Nat → Int32 → Int32 → Int32 → Int32 → Int32 → mMem → Option (Int32 × mMem)) (a0 : Nat) (x2 : Int32) (x3 : Int32) (x4 : Int32) (x5 : Int32) (x6 : Int32) (M : mMem) : Option (Int32 × mMem) :=
  rec23 a0 x2 x3 x4 x5 (x6 + 1) M
def p12_holdsLine_J264 (rec23 : Nat → Int32 → Int32 → Int32 → Int32 → Int32 → mMem → Option (Int32 × mMem)) (a0 : Nat) (x2 : Int32) (x3 : Int32) (x4 : Int32) (x5 : Int32) (x6 : Int32) (b0 : Nat) (u1 : Int32) (u2 : Int32) (M : mMem) : Option (Int32 × mMem) :=
  (astI M b0 u1 u2).bind fun M_1 =>
  p12_holdsLine_J265 rec23 a0 x2 x3 x4 x5 x6 M_1
def p12_holdsLine_J229 (rec23 : Nat → Int32 → Int32 → Int32 → Int32 → Int32 → mMem → Option (Int32 × mMem)) (a0 : Nat) (x2 : Int32) (x3 : Int32) (x4 : Int32) (x5 : Int32) (x6 : Int32) (x7 : Int32) (x8 : Int32) (x9 : Int32) (u0 : Int32) (M : mMem) : Option (Int32 × mMem) :=
  (getR M a0 12 17).bind fun v_1 =>
  if x7 = 10 then
    p12_holdsLine_J264 rec23 a0 x2 x3 x4 x5 x6 v_1 (x4 - 1) (x8 + x9) M
  else
    if u0 = 0 then
      p12_holdsLine_J264 rec23 a0 x2 x3 x4 x5 x6 v_1 (x4 - 1) 0 M
    else
      p12_holdsLine_J264 rec23 a0 x2 x3 x4 x5 x6 v_1 (x4 - 1) 1 M
def p12_holdsLine_L23 (k271 : Nat → Int32 → mMem → Option (Int32 × mMem)) : Nat → Nat → Int32 → Int32 → Int32 → Int32 → Int32 → mMem → Option (Int32 × mMem)
  | 0, _, _, _, _, _, _, _ => none
  | n + 1, a0, x2, x3, x4, x5, x6, M =>
    (getR M a0 12 1).bind fun v_1 =>
    (aldI M v_1 20 (x5 + 3)).bind fun v_2 =>
    if x6 < v_2 then
      (getR M a0 12 1).bind fun v_3 =>
      (aldI M v_3 20 ((494 : Int32) + ((2 : Int32) * x6))).bind fun v_4 =>
      if 9 < v_4 then
        if v_4 = 13 then
          (getR M a0 12 17).bind fun v_9 =>
          (getR M a0 12 17).bind fun v_10 =>
          (aldI M v_10 20 (x4 - 1)).bind fun v_11 =>
          (astI M v_9 (x4 - 1) ((1 : Int32) - v_11)).bind fun M_12 =>
          p12_holdsLine_J265 (p12_holdsLine_L23 k271 n) a0 x2 x3 x4 x5 x6 M_12
        else
          (getR M a0 12 17).bind fun v_5 =>
          (aldI M v_5 20 ((x4 + (-1)) - 1)).bind fun v_6 =>
          (getR M a0 12 17).bind fun v_7 =>
          (aldI M v_7 20 (x4 + (-1))).bind fun v_8 =>
          if v_4 = 11 then
            if v_6 < v_8 then
              p12_holdsLine_J229 (p12_holdsLine_L23 k271 n) a0 x2 x3 (x4 + (-1)) x5 x6 v_4 v_6 v_8 1 M
            else
              p12_holdsLine_J229 (p12_holdsLine_L23 k271 n) a0 x2 x3 (x4 + (-1)) x5 x6 v_4 v_6 v_8 0 M
          else
            if v_4 = 12 then
              if v_8 < v_6 then
                p12_holdsLine_J229 (p12_holdsLine_L23 k271 n) a0 x2 x3 (x4 + (-1)) x5 x6 v_4 v_6 v_8 1 M
              else
                p12_holdsLine_J229 (p12_holdsLine_L23 k271 n) a0 x2 x3 (x4 + (-1)) x5 x6 v_4 v_6 v_8 0 M
            else
              if v_4 = 14 then
                if (v_6 + v_8) = 2 then
                  p12_holdsLine_J229 (p12_holdsLine_L23 k271 n) a0 x2 x3 (x4 + (-1)) x5 x6 v_4 v_6 v_8 1 M
                else
                  p12_holdsLine_J229 (p12_holdsLine_L23 k271 n) a0 x2 x3 (x4 + (-1)) x5 x6 v_4 v_6 v_8 0 M
              else
                if 0 < (v_6 + v_8) then
                  p12_holdsLine_J229 (p12_holdsLine_L23 k271 n) a0 x2 x3 (x4 + (-1)) x5 x6 v_4 v_6 v_8 1 M
                else
                  p12_holdsLine_J229 (p12_holdsLine_L23 k271 n) a0 x2 x3 (x4 + (-1)) x5 x6 v_4 v_6 v_8 0 M
      else
        (getR M a0 12 17).bind fun v_13 =>
        (getR M a0 12 1).bind fun v_14 =>
        (aldI M v_14 20 (((494 : Int32) + ((2 : Int32) * x6)) + 1)).bind fun v_15 =>
        (p12_factOf a0 v_4 v_15 x2 x3 M).bind fun v_16 =>
        (astI M v_13 x4 v_16).bind fun M_17 =>
        p12_holdsLine_J265 (p12_holdsLine_L23 k271 n) a0 x2 x3 (x4 + 1) x5 x6 M_17
    else
      k271 a0 x4 M
def p12_holdsLine_J291 (u0 : Int32) (M : mMem) : Option (Int32 × mMem) :=
  (bZ u0).bind fun z => some (z, M)
def p12_holdsLine_J286 (M : mMem) : Option (Int32 × mMem) :=
  p12_holdsLine_J291 1 M
def p12_holdsLine_J271 (a0 : Nat) (x4 : Int32) (M : mMem) : Option (Int32 × mMem) :=
  if x4 = 0 then
    p12_holdsLine_J286 M
  else
    (getR M a0 12 17).bind fun v_1 =>
    (aldI M v_1 20 0).bind fun v_2 =>
    if v_2 = 1 then
      p12_holdsLine_J286 M
    else
      p12_holdsLine_J291 0 M
def p12_holdsLine (a0 : Nat) (x1 : Int32) (x2 : Int32) (x3 : Int32) (M : mMem) : Option (Int32 × mMem) :=
  gd M a0 12 (
    (getR M a0 12 1).bind fun v_1 =>
    (aldI M v_1 20 (((446 : Int32) + ((4 : Int32) * x1)) + 2)).bind fun v_2 =>
    p12_holdsLine_L23 p12_holdsLine_J271 gF a0 x2 x3 0 ((446 : Int32) + ((4 : Int32) * x1)) v_2 M)
abbrev rm12_sumOf : Room := { frames := 5, cells := 0, slots := 0, locals := 119 }
def p12_sumOf_J83 (x4 : Int32) (M : mMem) : Option (Int32 × mMem) :=
  some (x4, M)
def p12_sumOf_J77 (rec6 : Nat → Int32 → Int32 → Int32 → Int32 → Int32 → mMem → Option (Int32 × mMem)) (a0 : Nat) (x1 : Int32) (x2 : Int32) (x3 : Int32) (x4 : Int32) (x5 : Int32) (M : mMem) : Option (Int32 × mMem) :=
  rec6 a0 x1 x2 x3 x4 (x5 + 1) M
def p12_sumOf_L6 : Nat → Nat → Int32 → Int32 → Int32 → Int32 → Int32 → mMem → Option (Int32 × mMem)
  | 0, _, _, _, _, _, _, _ => none
  | n + 1, a0, x1, x2, x3, x4, x5, M =>
    (getR M a0 12 1).bind fun v_1 =>
    (aldI M v_1 20 2).bind fun v_2 =>
    if v_2 = 1 then
      (getR M a0 12 1).bind fun v_3 =>
      (aldI M v_3 20 445).bind fun v_4 =>
      if x5 < v_4 then
        (getR M a0 12 1).bind fun v_5 =>
        (aldI M v_5 20 ((446 : Int32) + ((4 : Int32) * x5))).bind fun v_6 =>
        if v_6 = x1 then
          (p12_holdsLine a0 x5 x2 x3 M).bind fun q_7 =>
          if q_7.1 = 0 then
            p12_sumOf_J77 (p12_sumOf_L6 n) a0 x1 x2 x3 x4 x5 q_7.2
          else
            (getR q_7.2 a0 12 1).bind fun v_8 =>
            (aldI q_7.2 v_8 20 (((446 : Int32) + ((4 : Int32) * x5)) + 1)).bind fun v_9 =>
            p12_sumOf_J77 (p12_sumOf_L6 n) a0 x1 x2 x3 (x4 + v_9) x5 q_7.2
        else
          p12_sumOf_J77 (p12_sumOf_L6 n) a0 x1 x2 x3 x4 x5 M
      else
        p12_sumOf_J83 x4 M
    else
      p12_sumOf_J83 x4 M
def p12_sumOf (a0 : Nat) (x1 : Int32) (x2 : Int32) (x3 : Int32) (M : mMem) : Option (Int32 × mMem) :=
  gd M a0 12 (
    p12_sumOf_L6 gF a0 x1 x2 x3 0 0 M)
abbrev rm12_weighsOf : Room := { frames := 6, cells := 0, slots := 0, locals := 144 }
def p12_weighsOf_J29 (a0 : Nat) (x1 : Int32) (x2 : Int32) (u0 : Int32) (b1 : Nat) (u2 : Int32) (M : mMem) : Option (Int32 × mMem) :=
  (p12_sumOf b1 u2 x1 x2 M).bind fun q_1 =>
  (getR q_1.2 a0 12 1).bind fun v_2 =>
  (aldI q_1.2 v_2 20 4).bind fun v_3 =>
  (remI (u0 + q_1.1) v_3).bind fun v_4 =>
  some (v_4, q_1.2)
def p12_weighsOf (a0 : Nat) (x1 : Int32) (x2 : Int32) (x3 : Int32) (M : mMem) : Option (Int32 × mMem) :=
  gd M a0 12 (
    (p12_sumOf a0 2 x1 x2 M).bind fun q_1 =>
    if 0 < q_1.1 then
      some (0, q_1.2)
    else
      (getR q_1.2 a0 12 1).bind fun v_2 =>
      (aldI q_1.2 v_2 20 6).bind fun v_3 =>
      if x3 = 0 then
        p12_weighsOf_J29 a0 x1 x2 v_3 a0 0 q_1.2
      else
        p12_weighsOf_J29 a0 x1 x2 v_3 a0 1 q_1.2)
abbrev rm12_grows : Room := { frames := 2, cells := 0, slots := 0, locals := 43 }
def p12_grows_J81 (a0 : Nat) (x1 : Int32) (x4 : Int32) (M : mMem) : Option mMem :=
  (getR M a0 12 1).bind fun v_1 =>
  (p12_at x1 0 M).bind fun v_2 =>
  (getR M a0 12 1).bind fun v_3 =>
  (aldI M v_3 20 4).bind fun v_4 =>
  (getR M a0 12 1).bind fun v_5 =>
  (aldI M v_5 20 4).bind fun v_6 =>
  (remI (x4 + v_4) v_6).bind fun v_7 =>
  (astI M v_1 v_2 v_7).bind fun M_8 =>
  some M_8
def p12_grows_J47 (a0 : Nat) (x1 : Int32) (x4 : Int32) (M : mMem) : Option mMem :=
  (getR M a0 12 1).bind fun v_1 =>
  (aldI M v_1 20 4).bind fun v_2 =>
  if x4 < v_2 then
    p12_grows_J81 a0 x1 x4 M
  else
    (getR M a0 12 1).bind fun v_3 =>
    (p12_at x1 1 M).bind fun v_4 =>
    (p12_of a0 x1 1 M).bind fun v_5 =>
    (astI M v_3 v_4 (maxI (-99) (v_5 - 1))).bind fun M_6 =>
    p12_grows_J81 a0 x1 x4 M_6
def p12_grows_J16 (a0 : Nat) (x1 : Int32) (u0 : Int32) (u1 : Int32) (M : mMem) : Option mMem :=
  if (u0 + u1) < 0 then
    (getR M a0 12 1).bind fun v_1 =>
    (p12_at x1 1 M).bind fun v_2 =>
    (p12_of a0 x1 1 M).bind fun v_3 =>
    (astI M v_1 v_2 (minI 99 (v_3 + 1))).bind fun M_4 =>
    p12_grows_J47 a0 x1 (u0 + u1) M_4
  else
    p12_grows_J47 a0 x1 (u0 + u1) M
def p12_grows (a0 : Nat) (x1 : Int32) (x2 : Int32) (x3 : Int32) (M : mMem) : Option mMem :=
  gd M a0 12 (
    (p12_of a0 x1 0 M).bind fun v_1 =>
    if x3 = 0 then
      p12_grows_J16 a0 x1 v_1 (-x2) M
    else
      p12_grows_J16 a0 x1 v_1 x2 M)
abbrev rm12_hears : Room := { frames := 7, cells := 0, slots := 0, locals := 167 }
def p12_hears (a0 : Nat) (x1 : Int32) (x2 : Int32) (x3 : Int32) (M : mMem) : Option mMem :=
  gd M a0 12 (
    (p12_weighsOf a0 x1 x2 x3 M).bind fun q_1 =>
    (p12_grows a0 x2 q_1.1 x3 q_1.2).bind fun q_2 =>
    some q_2)
abbrev rm12_tells : Room := { frames := 2, cells := 0, slots := 0, locals := 43 }
def p12_tells_L5 (k41 : Nat → Int32 → Int32 → Int32 → mMem → Option mMem) : Nat → Nat → Int32 → Int32 → Int32 → Int32 → mMem → Option mMem
  | 0, _, _, _, _, _, _ => none
  | n + 1, a0, x1, x2, x3, x4, M =>
    if x4 < 5 then
      k41 a0 x1 x2 x3 M
    else
      (getR M a0 12 1).bind fun v_1 =>
      (getR M a0 12 1).bind fun v_2 =>
      (aldI M v_2 20 (((145 : Int32) + x4) - 5)).bind fun v_3 =>
      (astI M v_1 ((145 : Int32) + x4) v_3).bind fun M_4 =>
      (p12_tells_L5 k41 n) a0 x1 x2 x3 (x4 + (-1)) M_4
def p12_tells_J89 (a0 : Nat) (x2 : Int32) (b0 : Nat) (u1 : Int32) (u2 : Int32) (M : mMem) : Option mMem :=
  (astI M b0 u1 u2).bind fun M_1 =>
  (getR M_1 a0 12 1).bind fun v_2 =>
  (p12_of a0 x2 0 M_1).bind fun v_3 =>
  (astI M_1 v_2 149 v_3).bind fun M_4 =>
  (getR M_4 a0 12 1).bind fun v_5 =>
  (getR M_4 a0 12 1).bind fun v_6 =>
  (aldI M_4 v_6 20 7).bind fun v_7 =>
  (astI M_4 v_5 7 (minI 60 (v_7 + 1))).bind fun M_8 =>
  some M_8
def p12_tells_J41 (a0 : Nat) (x1 : Int32) (x2 : Int32) (x3 : Int32) (M : mMem) : Option mMem :=
  (getR M a0 12 1).bind fun v_1 =>
  (getR M a0 12 1).bind fun v_2 =>
  (aldI M v_2 20 3).bind fun v_3 =>
  (astI M v_1 145 v_3).bind fun M_4 =>
  (getR M_4 a0 12 1).bind fun v_5 =>
  (astI M_4 v_5 146 x1).bind fun M_6 =>
  (getR M_6 a0 12 1).bind fun v_7 =>
  (astI M_6 v_7 147 x2).bind fun M_8 =>
  (getR M_8 a0 12 1).bind fun v_9 =>
  if x3 = 0 then
    p12_tells_J89 a0 x2 v_9 148 0 M_8
  else
    p12_tells_J89 a0 x2 v_9 148 1 M_8
def p12_tells (a0 : Nat) (x1 : Int32) (x2 : Int32) (x3 : Int32) (M : mMem) : Option mMem :=
  gd M a0 12 (
    p12_tells_L5 p12_tells_J41 gF a0 x1 x2 x3 299 M)
abbrev rm12_says : Room := { frames := 8, cells := 0, slots := 0, locals := 190 }
def p12_says (a0 : Nat) (x1 : Int32) (x2 : Int32) (x3 : Int32) (M : mMem) : Option mMem :=
  gd M a0 12 (
    (p12_hears a0 x1 x2 x3 M).bind fun q_1 =>
    (p12_tells a0 x1 x2 x3 q_1).bind fun q_2 =>
    some q_2)
abbrev rm12_gapOf : Room := { frames := 2, cells := 0, slots := 0, locals := 43 }
def p12_gapOf (a0 : Nat) (x1 : Int32) (x2 : Int32) (M : mMem) : Option Int32 :=
  gd M a0 12 (
    (p12_of a0 x1 0 M).bind fun v_1 =>
    (p12_of a0 x2 0 M).bind fun v_2 =>
    (getR M a0 12 1).bind fun v_3 =>
    (aldI M v_3 20 4).bind fun v_4 =>
    some (minI (absI (v_1 - v_2)) (v_4 - (absI (v_1 - v_2)))))
abbrev rm12_governedBy : Room := { frames := 3, cells := 0, slots := 0, locals := 65 }
def p12_governedBy_J29 (M : mMem) (rec4 : Nat → Int32 → Int32 → Int32 → Option Int32) (a0 : Nat) (x1 : Int32) (x3 : Int32) (u0 : Int32) (u1 : Int32) : Option Int32 :=
  rec4 a0 x1 (u0 ||| u1) (x3 + 1)
def p12_governedBy_L4 (M : mMem) : Nat → Nat → Int32 → Int32 → Int32 → Option Int32
  | 0, _, _, _, _ => none
  | n + 1, a0, x1, x2, x3 =>
    (p12_people a0 M).bind fun v_1 =>
    if x3 < v_1 then
      (p12_governs a0 x1 x3 M).bind fun v_2 =>
      if v_2 = 0 then
        p12_governedBy_J29 M (p12_governedBy_L4 M n) a0 x1 x3 x2 0
      else
        p12_governedBy_J29 M (p12_governedBy_L4 M n) a0 x1 x3 x2 ((1 : Int32) <<< (x3 &&& 31))
    else
      some x2
def p12_governedBy (a0 : Nat) (x1 : Int32) (M : mMem) : Option Int32 :=
  gd M a0 12 (
    p12_governedBy_L4 M gF a0 x1 0 0)
abbrev rm12_ofLog : Room := { frames := 0, cells := 0, slots := 0, locals := 0 }
def p12_ofLog (a0 : Nat) (x1 : Int32) (x2 : Int32) (M : mMem) : Option Int32 :=
  gd M a0 12 (
    (getR M a0 12 1).bind fun v_1 =>
    (aldI M v_1 20 (((145 : Int32) + ((5 : Int32) * x1)) + x2)).bind fun v_2 =>
    some v_2)
abbrev rm12_shareOf : Room := { frames := 1, cells := 0, slots := 0, locals := 22 }
def p12_shareOf_J55 (M : mMem) (rec7 : Nat → Int32 → Int32 → Int32 → Int32 → Option Int32) (a0 : Nat) (x1 : Int32) (x2 : Int32) (x3 : Int32) (x4 : Int32) : Option Int32 :=
  rec7 a0 x1 x2 x3 (x4 + 1)
def p12_shareOf_J53 (M : mMem) (rec7 : Nat → Int32 → Int32 → Int32 → Int32 → Option Int32) (a0 : Nat) (x1 : Int32) (x2 : Int32) (x4 : Int32) (u0 : Int32) (u1 : Int32) : Option Int32 :=
  p12_shareOf_J55 M rec7 a0 x1 x2 (u0 + u1) x4
def p12_shareOf_L7 (M : mMem) (k61 : Int32 → Int32 → Option Int32) : Nat → Nat → Int32 → Int32 → Int32 → Int32 → Option Int32
  | 0, _, _, _, _, _ => none
  | n + 1, a0, x1, x2, x3, x4 =>
    (getR M a0 12 1).bind fun v_1 =>
    (aldI M v_1 20 7).bind fun v_2 =>
    if x4 < v_2 then
      (p12_ofLog a0 x4 3 M).bind fun v_3 =>
      if v_3 = 1 then
        p12_shareOf_J55 M (p12_shareOf_L7 M k61 n) a0 x1 x2 x3 x4
      else
        (p12_ofLog a0 x4 2 M).bind fun v_4 =>
        if v_4 = x1 then
          p12_shareOf_J53 M (p12_shareOf_L7 M k61 n) a0 x1 (x2 + 1) x4 x3 1
        else
          p12_shareOf_J53 M (p12_shareOf_L7 M k61 n) a0 x1 (x2 + 1) x4 x3 0
    else
      k61 x2 x3
def p12_shareOf_J75 (M : mMem) (u0 : Int32) : Option Int32 :=
  some u0
def p12_shareOf_J61 (M : mMem) (x2 : Int32) (x3 : Int32) : Option Int32 :=
  if x2 = 0 then
    p12_shareOf_J75 M 0
  else
    (divI ((100 : Int32) * x3) x2).bind fun v_1 =>
    p12_shareOf_J75 M v_1
def p12_shareOf (a0 : Nat) (x1 : Int32) (M : mMem) : Option Int32 :=
  gd M a0 12 (
    p12_shareOf_L7 M (p12_shareOf_J61 M) gF a0 x1 0 0 0)
abbrev rm12_person : Room := { frames := 4, cells := 0, slots := 0, locals := 88 }
def p12_person_J41 (M : mMem) : Option (Int32 × mMem) :=
  some (0, M)
def p12_person_J77 (u0 : Int32) (M : mMem) : Option (Int32 × mMem) :=
  some (u0, M)
def p12_person_J34 (a0 : Nat) (x1 : Int32) (x2 : Int32) (b0 : Nat) (u1 : Int32) (M : mMem) : Option (Int32 × mMem) :=
  (p12_throwsIf b0 u1 2 M).bind fun q_1 =>
  if q_1.1 = 0 then
    if x2 = 9 then
      (p12_governedBy a0 x1 q_1.2).bind fun v_4 =>
      p12_person_J77 v_4 q_1.2
    else
      if x2 = 10 then
        (p12_shareOf a0 x1 q_1.2).bind fun v_3 =>
        p12_person_J77 v_3 q_1.2
      else
        (p12_of a0 x1 x2 q_1.2).bind fun v_2 =>
        p12_person_J77 v_2 q_1.2
  else
    p12_person_J41 q_1.2
def p12_person (a0 : Nat) (x1 : Int32) (x2 : Int32) (M : mMem) : Option (Int32 × mMem) :=
  gd M a0 12 (
    (putI M a0 12 0 0).bind fun M_1 =>
    (p12_nobody a0 x1 M_1).bind fun v_2 =>
    (p12_throwsIf a0 v_2 1 M_1).bind fun q_3 =>
    if q_3.1 = 0 then
      (p12_in x2 0 10 q_3.2).bind fun v_4 =>
      if v_4 = 0 then
        p12_person_J34 a0 x1 x2 a0 1 q_3.2
      else
        p12_person_J34 a0 x1 x2 a0 0 q_3.2
    else
      p12_person_J41 q_3.2)
abbrev rm12_noTwo : Room := { frames := 2, cells := 0, slots := 0, locals := 43 }
def p12_noTwo_J57 (u0 : Int32) (M : mMem) : Option (Int32 × mMem) :=
  (bZ u0).bind fun z => some (z, M)
def p12_noTwo_J52 (M : mMem) : Option (Int32 × mMem) :=
  p12_noTwo_J57 1 M
def p12_noTwo_J45 (b0 : Nat) (u1 : Int32) (M : mMem) : Option (Int32 × mMem) :=
  (p12_throwsIf b0 u1 2 M).bind fun q_1 =>
  if q_1.1 = 0 then
    p12_noTwo_J57 0 q_1.2
  else
    p12_noTwo_J52 q_1.2
def p12_noTwo_J27 (a0 : Nat) (x1 : Int32) (x2 : Int32) (b0 : Nat) (u1 : Int32) (M : mMem) : Option (Int32 × mMem) :=
  (p12_throwsIf b0 u1 1 M).bind fun q_1 =>
  if q_1.1 = 0 then
    if x1 = x2 then
      p12_noTwo_J45 a0 1 q_1.2
    else
      p12_noTwo_J45 a0 0 q_1.2
  else
    p12_noTwo_J52 q_1.2
def p12_noTwo_J22 (a0 : Nat) (x1 : Int32) (x2 : Int32) (b0 : Nat) (M : mMem) : Option (Int32 × mMem) :=
  p12_noTwo_J27 a0 x1 x2 b0 1 M
def p12_noTwo (a0 : Nat) (x1 : Int32) (x2 : Int32) (M : mMem) : Option (Int32 × mMem) :=
  gd M a0 12 (
    (putI M a0 12 0 0).bind fun M_1 =>
    (p12_nobody a0 x1 M_1).bind fun v_2 =>
    if v_2 = 0 then
      (p12_nobody a0 x2 M_1).bind fun v_3 =>
      if v_3 = 0 then
        p12_noTwo_J27 a0 x1 x2 a0 0 M_1
      else
        p12_noTwo_J22 a0 x1 x2 a0 M_1
    else
      p12_noTwo_J22 a0 x1 x2 a0 M_1)
abbrev rm12_lent : Room := { frames := 3, cells := 0, slots := 0, locals := 65 }
def p12_lent_J22 (u0 : Int32) (M : mMem) : Option (Int32 × mMem) :=
  some (u0, M)
def p12_lent (a0 : Nat) (x1 : Int32) (x2 : Int32) (M : mMem) : Option (Int32 × mMem) :=
  gd M a0 12 (
    (p12_noTwo a0 x1 x2 M).bind fun q_1 =>
    if q_1.1 = 0 then
      (p12_of a0 x1 ((9 : Int32) + x2) q_1.2).bind fun v_2 =>
      p12_lent_J22 v_2 q_1.2
    else
      p12_lent_J22 0 q_1.2)
abbrev rm12_weighs : Room := { frames := 7, cells := 0, slots := 0, locals := 167 }
def p12_weighs_J20 (u0 : Int32) (M : mMem) : Option (Int32 × mMem) :=
  some (u0, M)
def p12_weighs (a0 : Nat) (x1 : Int32) (x2 : Int32) (x3 : Int32) (M : mMem) : Option (Int32 × mMem) :=
  gd M a0 12 (
    (p12_noTwo a0 x1 x2 M).bind fun q_1 =>
    if q_1.1 = 0 then
      (p12_weighsOf a0 x1 x2 x3 q_1.2).bind fun q_2 =>
      p12_weighs_J20 q_2.1 q_2.2
    else
      p12_weighs_J20 0 q_1.2)
abbrev rm12_gap : Room := { frames := 3, cells := 0, slots := 0, locals := 66 }
def p12_gap_J19 (u0 : Int32) (M : mMem) : Option (Int32 × mMem) :=
  some (u0, M)
def p12_gap (a0 : Nat) (x1 : Int32) (x2 : Int32) (M : mMem) : Option (Int32 × mMem) :=
  gd M a0 12 (
    (p12_noTwo a0 x1 x2 M).bind fun q_1 =>
    if q_1.1 = 0 then
      (p12_gapOf a0 x1 x2 q_1.2).bind fun v_2 =>
      p12_gap_J19 v_2 q_1.2
    else
      p12_gap_J19 0 q_1.2)
abbrev rm12_keepsAll : Room := { frames := 0, cells := 0, slots := 0, locals := 0 }
def p12_keepsAll_L2 : Nat → Nat → Int32 → mMem → Option mMem
  | 0, _, _, _ => none
  | n + 1, a0, x1, M =>
    if x1 < 445 then
      (getR M a0 12 4).bind fun v_1 =>
      (getR M a0 12 1).bind fun v_2 =>
      (aldI M v_2 20 x1).bind fun v_3 =>
      (astI M v_1 x1 v_3).bind fun M_4 =>
      (p12_keepsAll_L2 n) a0 (x1 + 1) M_4
    else
      some M
def p12_keepsAll (a0 : Nat) (M : mMem) : Option mMem :=
  gd M a0 12 (
    p12_keepsAll_L2 gF a0 0 M)
abbrev rm12_bringsBack : Room := { frames := 0, cells := 0, slots := 0, locals := 0 }
def p12_bringsBack_L2 : Nat → Nat → Int32 → mMem → Option mMem
  | 0, _, _, _ => none
  | n + 1, a0, x1, M =>
    if x1 < 445 then
      (getR M a0 12 1).bind fun v_1 =>
      (getR M a0 12 4).bind fun v_2 =>
      (aldI M v_2 20 x1).bind fun v_3 =>
      (astI M v_1 x1 v_3).bind fun M_4 =>
      (p12_bringsBack_L2 n) a0 (x1 + 1) M_4
    else
      some M
def p12_bringsBack (a0 : Nat) (M : mMem) : Option mMem :=
  gd M a0 12 (
    p12_bringsBack_L2 gF a0 0 M)
abbrev rm12_would : Room := { frames := 8, cells := 0, slots := 0, locals := 190 }
def p12_would (a0 : Nat) (x1 : Int32) (x2 : Int32) (x3 : Int32) (M : mMem) : Option (Int32 × mMem) :=
  gd M a0 12 (
    (p12_noTwo a0 x1 x2 M).bind fun q_1 =>
    if q_1.1 = 0 then
      (p12_keepsAll a0 q_1.2).bind fun q_2 =>
      (p12_hears a0 x1 x2 x3 q_2).bind fun q_3 =>
      (p12_of a0 x2 0 q_3).bind fun v_4 =>
      (p12_bringsBack a0 q_3).bind fun q_5 =>
      some (v_4, q_5)
    else
      some (0, q_1.2))
abbrev rm12_say : Room := { frames := 9, cells := 0, slots := 0, locals := 213 }
def p12_say_J56 (M : mMem) : Option (Int32 × mMem) :=
  some (0, M)
def p12_say_J49 (a0 : Nat) (x1 : Int32) (x2 : Int32) (x3 : Int32) (b0 : Nat) (u1 : Int32) (M : mMem) : Option (Int32 × mMem) :=
  (p12_throwsIf b0 u1 2 M).bind fun q_1 =>
  if q_1.1 = 0 then
    (p12_remembers a0 q_1.2).bind fun q_2 =>
    (p12_says a0 x1 x2 x3 q_2).bind fun q_3 =>
    (p12_of a0 x2 0 q_3).bind fun v_4 =>
    some (v_4, q_3)
  else
    p12_say_J56 q_1.2
def p12_say_J27 (a0 : Nat) (x1 : Int32) (x2 : Int32) (x3 : Int32) (b0 : Nat) (u1 : Int32) (M : mMem) : Option (Int32 × mMem) :=
  (p12_throwsIf b0 u1 1 M).bind fun q_1 =>
  if q_1.1 = 0 then
    (p12_governs a0 x1 x2 q_1.2).bind fun v_2 =>
    if v_2 = 0 then
      p12_say_J49 a0 x1 x2 x3 a0 1 q_1.2
    else
      p12_say_J49 a0 x1 x2 x3 a0 0 q_1.2
  else
    p12_say_J56 q_1.2
def p12_say_J22 (a0 : Nat) (x1 : Int32) (x2 : Int32) (x3 : Int32) (b0 : Nat) (M : mMem) : Option (Int32 × mMem) :=
  p12_say_J27 a0 x1 x2 x3 b0 1 M
def p12_say (a0 : Nat) (x1 : Int32) (x2 : Int32) (x3 : Int32) (M : mMem) : Option (Int32 × mMem) :=
  gd M a0 12 (
    (putI M a0 12 0 0).bind fun M_1 =>
    (p12_nobody a0 x1 M_1).bind fun v_2 =>
    if v_2 = 0 then
      (p12_nobody a0 x2 M_1).bind fun v_3 =>
      if v_3 = 0 then
        p12_say_J27 a0 x1 x2 x3 a0 0 M_1
      else
        p12_say_J22 a0 x1 x2 x3 a0 M_1
    else
      p12_say_J22 a0 x1 x2 x3 a0 M_1)
abbrev rm12_bear : Room := { frames := 3, cells := 0, slots := 0, locals := 64 }
def p12_bear_J48 (M : mMem) : Option (Int32 × mMem) :=
  some (0, M)
def p12_bear_J70 (a0 : Nat) (x1 : Int32) (x3 : Int32) (b0 : Nat) (u1 : Int32) (u2 : Int32) (M : mMem) : Option (Int32 × mMem) :=
  (getR M a0 12 1).bind fun v_1 =>
  (aldI M v_1 20 4).bind fun v_2 =>
  (divI v_2 2).bind fun v_3 =>
  (p12_isBorn b0 u1 u2 v_3 x1 M).bind fun q_4 =>
  (getR q_4 a0 12 1).bind fun v_5 =>
  (p12_at x3 8 q_4).bind fun v_6 =>
  (astI q_4 v_5 v_6 ((1 : Int32) <<< (x1 &&& 31))).bind fun M_7 =>
  some (x3, M_7)
def p12_bear_J41 (a0 : Nat) (x1 : Int32) (x2 : Int32) (b0 : Nat) (u1 : Int32) (M : mMem) : Option (Int32 × mMem) :=
  (p12_throwsIf b0 u1 2 M).bind fun q_1 =>
  if q_1.1 = 0 then
    (p12_remembers a0 q_1.2).bind fun q_2 =>
    (p12_people a0 q_2).bind fun v_3 =>
    if x2 = 0 then
      p12_bear_J70 a0 x1 v_3 a0 v_3 0 q_2
    else
      p12_bear_J70 a0 x1 v_3 a0 v_3 1 q_2
  else
    p12_bear_J48 q_1.2
def p12_bear_J36 (a0 : Nat) (x1 : Int32) (x2 : Int32) (b0 : Nat) (M : mMem) : Option (Int32 × mMem) :=
  p12_bear_J41 a0 x1 x2 b0 1 M
def p12_bear (a0 : Nat) (x1 : Int32) (x2 : Int32) (M : mMem) : Option (Int32 × mMem) :=
  gd M a0 12 (
    (putI M a0 12 0 0).bind fun M_1 =>
    (p12_nobody a0 x1 M_1).bind fun v_2 =>
    (p12_throwsIf a0 v_2 1 M_1).bind fun q_3 =>
    if q_3.1 = 0 then
      (p12_isBoy a0 x1 q_3.2).bind fun v_4 =>
      if v_4 = 0 then
        (p12_people a0 q_3.2).bind fun v_5 =>
        if v_5 = 8 then
          p12_bear_J36 a0 x1 x2 a0 q_3.2
        else
          p12_bear_J41 a0 x1 x2 a0 0 q_3.2
      else
        p12_bear_J36 a0 x1 x2 a0 q_3.2
    else
      p12_bear_J48 q_3.2)
abbrev rm12_wed : Room := { frames := 5, cells := 0, slots := 0, locals := 109 }
def p12_wed_J31 (M : mMem) : Option (Int32 × mMem) :=
  some (0, M)
def p12_wed_J24 (a0 : Nat) (x1 : Int32) (x2 : Int32) (b0 : Nat) (u1 : Int32) (M : mMem) : Option (Int32 × mMem) :=
  (p12_throwsIf b0 u1 3 M).bind fun q_1 =>
  if q_1.1 = 0 then
    (p12_remembers a0 q_1.2).bind fun q_2 =>
    (p12_weds a0 x1 x2 q_2).bind fun q_3 =>
    (p12_gapOf a0 x1 x2 q_3).bind fun v_4 =>
    some (v_4, q_3)
  else
    p12_wed_J31 q_1.2
def p12_wed (a0 : Nat) (x1 : Int32) (x2 : Int32) (M : mMem) : Option (Int32 × mMem) :=
  gd M a0 12 (
    (p12_noTwo a0 x1 x2 M).bind fun q_1 =>
    if q_1.1 = 0 then
      (p12_mayWed a0 x1 x2 q_1.2).bind fun v_2 =>
      if v_2 = 0 then
        p12_wed_J24 a0 x1 x2 a0 1 q_1.2
      else
        p12_wed_J24 a0 x1 x2 a0 0 q_1.2
    else
      p12_wed_J31 q_1.2)
