def gF : Nat := 4294967296
abbrev rm8_init : Room := { frames := 1, cells := 0, slots := 0, locals := 32 }
def p8_init (a0 : Nat) (M : mMem) : Option mMem :=
  gd M a0 9 (
    (putI M a0 9 3 (-1)).bind fun M_1 =>
    (putI M_1 a0 9 4 (-1)).bind fun M_2 =>
    (putI M_2 a0 9 6 50).bind fun M_3 =>
    some M_3)
abbrev rm6_init : Room := { frames := 1, cells := 1, slots := 300, locals := 32 }
def p6_init (a0 : Nat) (M : mMem) : Option mMem :=
  gd M a0 7 (
    (newC M 20 300).bind fun n_1 =>
    (putR n_1.2 a0 7 0 n_1.1).bind fun M_2 =>
    (putI M_2 a0 7 1 0).bind fun M_3 =>
    (putI M_3 a0 7 2 0).bind fun M_4 =>
    some M_4)
abbrev rm2_init : Room := { frames := 2, cells := 14, slots := 465, locals := 52 }
def p2_init_L81 : Nat → Nat → Int32 → mMem → Option mMem
  | 0, _, _, _ => none
  | n + 1, a0, x1, M =>
    (getR M a0 3 0).bind fun v_1 =>
    (lenA M v_1).bind fun v_2 =>
    if x1 < v_2 then
      (getR M a0 3 0).bind fun v_3 =>
      (newC M 9 0).bind fun n_4 =>
      (p8_init n_4.1 n_4.2).bind fun q_5 =>
      (astR q_5 v_3 24 9 x1 n_4.1).bind fun M_6 =>
      (p2_init_L81 n) a0 (x1 + 1) M_6
    else
      some M
def p2_init (a0 : Nat) (M : mMem) : Option mMem :=
  gd M a0 3 (
    (newC M 24 8).bind fun n_1 =>
    (putR n_1.2 a0 3 0 n_1.1).bind fun M_2 =>
    (newC M_2 9 0).bind fun n_3 =>
    (p8_init n_3.1 n_3.2).bind fun q_4 =>
    (putR q_4 a0 3 1 n_3.1).bind fun M_5 =>
    (newC M_5 20 64).bind fun n_6 =>
    (putR n_6.2 a0 3 2 n_6.1).bind fun M_7 =>
    (newC M_7 7 0).bind fun n_8 =>
    (p6_init n_8.1 n_8.2).bind fun q_9 =>
    (putR q_9 a0 3 3 n_8.1).bind fun M_10 =>
    (putI M_10 a0 3 4 0).bind fun M_11 =>
    (putI M_11 a0 3 5 90).bind fun M_12 =>
    (putI M_12 a0 3 6 5).bind fun M_13 =>
    (putI M_13 a0 3 7 1).bind fun M_14 =>
    (putI M_14 a0 3 8 0).bind fun M_15 =>
    (putI M_15 a0 3 9 1).bind fun M_16 =>
    (putI M_16 a0 3 10 0).bind fun M_17 =>
    p2_init_L81 9 a0 0 M_17)
abbrev rm0_init : Room := { frames := 3, cells := 19, slots := 872, locals := 73 }
def p0_init (a0 : Nat) (a1 : Nat) (a2 : Nat) (M : mMem) : Option mMem :=
  gd M a0 1 (
    (newC M 3 0).bind fun n_1 =>
    (p2_init n_1.1 n_1.2).bind fun q_2 =>
    (putR q_2 a0 1 2 n_1.1).bind fun M_3 =>
    (newC M_3 20 99).bind fun n_4 =>
    (putR n_4.2 a0 1 3 n_4.1).bind fun M_5 =>
    (newC M_5 20 99).bind fun n_6 =>
    (putR n_6.2 a0 1 4 n_6.1).bind fun M_7 =>
    (newC M_7 20 99).bind fun n_8 =>
    (putR n_8.2 a0 1 5 n_8.1).bind fun M_9 =>
    (newC M_9 20 99).bind fun n_10 =>
    (putR n_10.2 a0 1 6 n_10.1).bind fun M_11 =>
    (putI M_11 a0 1 7 0).bind fun M_12 =>
    (putR M_12 a0 1 0 a1).bind fun M_13 =>
    (putR M_13 a0 1 1 a2).bind fun M_14 =>
    some M_14)
abbrev rm2_has : Room := { frames := 0, cells := 0, slots := 0, locals := 0 }
def p2_has_J17 (M : mMem) (u0 : Int32) : Option Int32 :=
  (bZ u0).bind fun z => some z
def p2_has_J16 (M : mMem) : Option Int32 :=
  p2_has_J17 M 0
def p2_has (a0 : Nat) (x1 : Int32) (M : mMem) : Option Int32 :=
  gd M a0 3 (
    if x1 < 0 then
      p2_has_J16 M
    else
      (getI M a0 3 4).bind fun v_1 =>
      if x1 < v_1 then
        p2_has_J17 M 1
      else
        p2_has_J16 M)
abbrev rm2_at : Room := { frames := 0, cells := 0, slots := 0, locals := 0 }
def p2_at_J26 (M : mMem) (b0 : Nat) : Option Nat :=
  some b0
def p2_at_J22 (M : mMem) (a0 : Nat) : Option Nat :=
  (getR M a0 3 1).bind fun v_1 =>
  p2_at_J26 M v_1
def p2_at (a0 : Nat) (x1 : Int32) (M : mMem) : Option Nat :=
  gd M a0 3 (
    if x1 < 0 then
      p2_at_J22 M a0
    else
      (getR M a0 3 0).bind fun v_1 =>
      (lenA M v_1).bind fun v_2 =>
      if x1 < v_2 then
        (getR M a0 3 0).bind fun v_3 =>
        (aldR M v_3 24 x1).bind fun v_4 =>
        p2_at_J26 M v_4
      else
        p2_at_J22 M a0)
abbrev rm2_governs : Room := { frames := 1, cells := 0, slots := 0, locals := 21 }
def p2_governs_J29 (M : mMem) (u0 : Int32) : Option Int32 :=
  (bZ u0).bind fun z => some z
def p2_governs_J28 (M : mMem) : Option Int32 :=
  p2_governs_J29 M 0
def p2_governs (a0 : Nat) (x1 : Int32) (x2 : Int32) (M : mMem) : Option Int32 :=
  gd M a0 3 (
    (p2_has a0 x1 M).bind fun v_1 =>
    if v_1 = 0 then
      p2_governs_J28 M
    else
      (p2_at a0 x2 M).bind fun v_2 =>
      (getI M v_2 9 8).bind fun v_3 =>
      if ((v_3 >>> (x1 &&& 31)) &&& 1) = 1 then
        p2_governs_J29 M 1
      else
        p2_governs_J28 M)
abbrev rm0_canBeSaid : Room := { frames := 2, cells := 0, slots := 0, locals := 43 }
def p0_canBeSaid (a0 : Nat) (x1 : Int32) (x2 : Int32) (M : mMem) : Option Int32 :=
  gd M a0 1 (
    (getR M a0 1 0).bind fun v_1 =>
    (divI x1 2).bind fun v_2 =>
    (p2_governs v_1 v_2 x2 M).bind fun v_3 =>
    (bZ v_3).bind fun z => some z)
abbrev rm4_gatherFacts : Room := { frames := 1, cells := 0, slots := 0, locals := 32 }
def p4_gatherFacts_J142 (b0 : Nat) (u1 : Int32) (u2 : Int32) (M : mMem) : Option mMem :=
  (astI M b0 u1 u2).bind fun M_1 =>
  some M_1
def p4_gatherFacts_J118 (a0 : Nat) (a1 : Nat) (a4 : Nat) (b0 : Nat) (u1 : Int32) (u2 : Int32) (M : mMem) : Option mMem :=
  (astI M b0 u1 u2).bind fun M_1 =>
  (getR M_1 a0 5 6).bind fun v_2 =>
  (getI M_1 a4 9 0).bind fun v_3 =>
  (getI M_1 a1 3 6).bind fun v_4 =>
  if v_3 < v_4 then
    p4_gatherFacts_J142 v_2 25 1 M_1
  else
    p4_gatherFacts_J142 v_2 25 0 M_1
def p4_gatherFacts_J97 (a0 : Nat) (a1 : Nat) (x2 : Int32) (a4 : Nat) (b0 : Nat) (u1 : Int32) (u2 : Int32) (M : mMem) : Option mMem :=
  (astI M b0 u1 u2).bind fun M_1 =>
  (getR M_1 a0 5 6).bind fun v_2 =>
  (getI M_1 a4 9 3).bind fun v_3 =>
  if v_3 = x2 then
    p4_gatherFacts_J118 a0 a1 a4 v_2 24 1 M_1
  else
    p4_gatherFacts_J118 a0 a1 a4 v_2 24 0 M_1
def p4_gatherFacts (a0 : Nat) (a1 : Nat) (x2 : Int32) (x3 : Int32) (M : mMem) : Option mMem :=
  gd M a0 5 (
    (p2_at a1 x3 M).bind fun v_1 =>
    (getR M a0 5 6).bind fun v_2 =>
    (astI M v_2 26 x2).bind fun M_3 =>
    (getR M_3 a0 5 6).bind fun v_4 =>
    (astI M_3 v_4 27 x3).bind fun M_5 =>
    (getR M_5 a0 5 6).bind fun v_6 =>
    (getI M_5 v_1 9 0).bind fun v_7 =>
    (astI M_5 v_6 6 v_7).bind fun M_8 =>
    (getR M_8 a0 5 6).bind fun v_9 =>
    (p2_at a1 x2 M_8).bind fun v_10 =>
    (getI M_8 v_10 9 0).bind fun v_11 =>
    (astI M_8 v_9 28 v_11).bind fun M_12 =>
    (getR M_12 a0 5 6).bind fun v_13 =>
    (getI M_12 v_1 9 1).bind fun v_14 =>
    (astI M_12 v_13 29 (maxI 0 v_14)).bind fun M_15 =>
    (getR M_15 a0 5 6).bind fun v_16 =>
    (getI M_15 a1 3 8).bind fun v_17 =>
    (astI M_15 v_16 16 v_17).bind fun M_18 =>
    (getR M_18 a0 5 6).bind fun v_19 =>
    (getI M_18 v_1 9 4).bind fun v_20 =>
    if v_20 = (-1) then
      p4_gatherFacts_J97 a0 a1 x2 v_1 v_19 12 0 M_18
    else
      p4_gatherFacts_J97 a0 a1 x2 v_1 v_19 12 1 M_18)
abbrev rm4_joins : Room := { frames := 0, cells := 0, slots := 0, locals := 0 }
def p4_joins_J35 (M : mMem) (u0 : Int32) : Option Int32 :=
  (bZ u0).bind fun z => some z
def p4_joins_J30 (M : mMem) : Option Int32 :=
  p4_joins_J35 M 1
def p4_joins (x0 : Int32) (M : mMem) : Option Int32 :=
  if x0 = 43 then
    p4_joins_J30 M
  else
    if x0 = 60 then
      p4_joins_J30 M
    else
      if x0 = 62 then
        p4_joins_J30 M
      else
        if x0 = 22 then
          p4_joins_J30 M
        else
          if x0 = 21 then
            p4_joins_J30 M
          else
            p4_joins_J35 M 0
abbrev rm4_joined : Room := { frames := 0, cells := 0, slots := 0, locals := 0 }
def p4_joined_J58 (M : mMem) (u0 : Int32) : Option Int32 :=
  some u0
def p4_joined_J69 (M : mMem) (u0 : Int32) : Option Int32 :=
  some u0
def p4_joined (x0 : Int32) (x1 : Int32) (x2 : Int32) (M : mMem) : Option Int32 :=
  swI x0 (
    some (x1 ||| x2)) [(22,
    some (x1 &&& x2)), (43,
    some (x1 + x2)), (60,
    if x1 < x2 then
      p4_joined_J58 M 1
    else
      p4_joined_J58 M 0), (62,
    if x2 < x1 then
      p4_joined_J69 M 1
    else
      p4_joined_J69 M 0)]
abbrev rm4_holds : Room := { frames := 1, cells := 0, slots := 0, locals := 22 }
def p4_holds_J186 (rec5 : Nat → Int32 → Int32 → Int32 → mMem → Option (Int32 × mMem)) (a0 : Nat) (x2 : Int32) (x3 : Int32) (x4 : Int32) (M : mMem) : Option (Int32 × mMem) :=
  rec5 a0 x2 x3 (x4 + 1) M
def p4_holds_J182 (rec5 : Nat → Int32 → Int32 → Int32 → mMem → Option (Int32 × mMem)) (a0 : Nat) (x2 : Int32) (x3 : Int32) (x4 : Int32) (b0 : Nat) (u1 : Int32) (u2 : Int32) (M : mMem) : Option (Int32 × mMem) :=
  (astI M b0 u1 u2).bind fun M_1 =>
  p4_holds_J186 rec5 a0 x2 (x3 + 1) x4 M_1
def p4_holds_J175 (rec5 : Nat → Int32 → Int32 → Int32 → mMem → Option (Int32 × mMem)) (a0 : Nat) (x2 : Int32) (x3 : Int32) (x4 : Int32) (b0 : Nat) (u1 : Int32) (M : mMem) : Option (Int32 × mMem) :=
  (getR M a0 5 5).bind fun v_1 =>
  (aldI M v_1 20 x4).bind fun v_2 =>
  p4_holds_J182 rec5 a0 x2 x3 x4 b0 u1 v_2 M
def p4_holds_L5 (k192 : Nat → Int32 → mMem → Option (Int32 × mMem)) : Nat → Nat → Int32 → Int32 → Int32 → mMem → Option (Int32 × mMem)
  | 0, _, _, _, _, _ => none
  | n + 1, a0, x2, x3, x4, M =>
    if x4 < x2 then
      if x4 < 0 then
        k192 a0 x3 M
      else
        (getR M a0 5 4).bind fun v_1 =>
        (lenA M v_1).bind fun v_2 =>
        if x4 < v_2 then
          (getR M a0 5 4).bind fun v_3 =>
          (aldI M v_3 20 x4).bind fun v_4 =>
          if v_4 = 23 then
            if 0 < x3 then
              (getR M a0 5 7).bind fun v_22 =>
              (lenA M v_22).bind fun v_23 =>
              if v_23 < x3 then
                p4_holds_J186 (p4_holds_L5 k192 n) a0 x2 x3 x4 M
              else
                (getR M a0 5 7).bind fun v_24 =>
                (getR M a0 5 7).bind fun v_25 =>
                (aldI M v_25 20 (x3 - 1)).bind fun v_26 =>
                (astI M v_24 (x3 - 1) ((1 : Int32) - v_26)).bind fun M_27 =>
                p4_holds_J186 (p4_holds_L5 k192 n) a0 x2 x3 x4 M_27
            else
              p4_holds_J186 (p4_holds_L5 k192 n) a0 x2 x3 x4 M
          else
            (p4_joins v_4 M).bind fun v_5 =>
            if v_5 = 0 then
              if x3 < 0 then
                p4_holds_J186 (p4_holds_L5 k192 n) a0 x2 x3 x4 M
              else
                (getR M a0 5 7).bind fun v_6 =>
                (lenA M v_6).bind fun v_7 =>
                if x3 < v_7 then
                  (getR M a0 5 7).bind fun v_8 =>
                  if 2 < v_4 then
                    (getR M a0 5 6).bind fun v_9 =>
                    (lenA M v_9).bind fun v_10 =>
                    if v_4 < v_10 then
                      (getR M a0 5 6).bind fun v_11 =>
                      (aldI M v_11 20 v_4).bind fun v_12 =>
                      p4_holds_J182 (p4_holds_L5 k192 n) a0 x2 x3 x4 v_8 x3 v_12 M
                    else
                      p4_holds_J175 (p4_holds_L5 k192 n) a0 x2 x3 x4 v_8 x3 M
                  else
                    p4_holds_J175 (p4_holds_L5 k192 n) a0 x2 x3 x4 v_8 x3 M
                else
                  p4_holds_J186 (p4_holds_L5 k192 n) a0 x2 x3 x4 M
            else
              if 1 < x3 then
                (getR M a0 5 7).bind fun v_13 =>
                (lenA M v_13).bind fun v_14 =>
                if v_14 < x3 then
                  p4_holds_J186 (p4_holds_L5 k192 n) a0 x2 x3 x4 M
                else
                  (getR M a0 5 7).bind fun v_15 =>
                  (getR M a0 5 7).bind fun v_16 =>
                  (aldI M v_16 20 ((x3 + (-1)) - 1)).bind fun v_17 =>
                  (getR M a0 5 7).bind fun v_18 =>
                  (aldI M v_18 20 (x3 + (-1))).bind fun v_19 =>
                  (p4_joined v_4 v_17 v_19 M).bind fun v_20 =>
                  (astI M v_15 ((x3 + (-1)) - 1) v_20).bind fun M_21 =>
                  p4_holds_J186 (p4_holds_L5 k192 n) a0 x2 (x3 + (-1)) x4 M_21
              else
                p4_holds_J186 (p4_holds_L5 k192 n) a0 x2 x3 x4 M
        else
          k192 a0 x3 M
    else
      k192 a0 x3 M
def p4_holds_J210 (u0 : Int32) (M : mMem) : Option (Int32 × mMem) :=
  (bZ u0).bind fun z => some (z, M)
def p4_holds_J205 (M : mMem) : Option (Int32 × mMem) :=
  p4_holds_J210 1 M
def p4_holds_J192 (a0 : Nat) (x3 : Int32) (M : mMem) : Option (Int32 × mMem) :=
  if 0 < x3 then
    (getR M a0 5 7).bind fun v_1 =>
    (aldI M v_1 20 0).bind fun v_2 =>
    if v_2 = 0 then
      p4_holds_J210 0 M
    else
      p4_holds_J205 M
  else
    p4_holds_J205 M
def p4_holds (a0 : Nat) (x1 : Int32) (x2 : Int32) (M : mMem) : Option (Int32 × mMem) :=
  gd M a0 5 (
    p4_holds_L5 p4_holds_J192 gF a0 x2 0 x1 M)
abbrev rm2_leftByRound : Room := { frames := 0, cells := 0, slots := 0, locals := 0 }
def p2_leftByRound_J17 (M : mMem) (u0 : Int32) : Option Int32 :=
  some u0
def p2_leftByRound (a0 : Nat) (x1 : Int32) (M : mMem) : Option Int32 :=
  gd M a0 3 (
    (getI M a0 3 5).bind fun v_1 =>
    if 0 < v_1 then
      (getI M a0 3 5).bind fun v_2 =>
      (remI x1 v_2).bind fun v_3 =>
      p2_leftByRound_J17 M v_3
    else
      p2_leftByRound_J17 M 0)
abbrev rm4_weight : Room := { frames := 2, cells := 0, slots := 0, locals := 56 }
def p4_weight_J133 (a1 : Nat) (x6 : Int32) (M : mMem) : Option (Int32 × mMem) :=
  (p2_leftByRound a1 x6 M).bind fun v_1 =>
  some (v_1, M)
def p4_weight_J127 (rec37 : Nat → Nat → Int32 → Int32 → Int32 → mMem → Option (Int32 × mMem)) (a0 : Nat) (a1 : Nat) (x5 : Int32) (x6 : Int32) (x7 : Int32) (M : mMem) : Option (Int32 × mMem) :=
  rec37 a0 a1 x5 x6 (x7 + 1) M
def p4_weight_J77 (rec37 : Nat → Nat → Int32 → Int32 → Int32 → mMem → Option (Int32 × mMem)) (a0 : Nat) (a1 : Nat) (x5 : Int32) (x6 : Int32) (x7 : Int32) (M : mMem) : Option (Int32 × mMem) :=
  (getR M a0 5 2).bind fun v_1 =>
  (aldI M v_1 20 x7).bind fun v_2 =>
  (getR M a0 5 3).bind fun v_3 =>
  (aldI M v_3 20 x7).bind fun v_4 =>
  (p4_holds a0 v_2 v_4 M).bind fun q_5 =>
  if q_5.1 = 0 then
    p4_weight_J127 rec37 a0 a1 x5 x6 x7 q_5.2
  else
    (getR q_5.2 a0 5 0).bind fun v_6 =>
    (aldI q_5.2 v_6 20 x7).bind fun v_7 =>
    if v_7 = 19 then
      some (0, q_5.2)
    else
      (getR q_5.2 a0 5 1).bind fun v_8 =>
      (aldI q_5.2 v_8 20 x7).bind fun v_9 =>
      p4_weight_J127 rec37 a0 a1 x5 (x6 + v_9) x7 q_5.2
def p4_weight_L37 : Nat → Nat → Nat → Int32 → Int32 → Int32 → mMem → Option (Int32 × mMem)
  | 0, _, _, _, _, _, _ => none
  | n + 1, a0, a1, x5, x6, x7, M =>
    (getI M a0 5 9).bind fun v_1 =>
    if x7 < v_1 then
      if x7 < 12 then
        (getR M a0 5 0).bind fun v_2 =>
        (aldI M v_2 20 x7).bind fun v_3 =>
        if v_3 = 19 then
          p4_weight_J77 (p4_weight_L37 n) a0 a1 x5 x6 x7 M
        else
          (getR M a0 5 0).bind fun v_4 =>
          (aldI M v_4 20 x7).bind fun v_5 =>
          if v_5 = x5 then
            p4_weight_J77 (p4_weight_L37 n) a0 a1 x5 x6 x7 M
          else
            p4_weight_J127 (p4_weight_L37 n) a0 a1 x5 x6 x7 M
      else
        p4_weight_J133 a1 x6 M
    else
      p4_weight_J133 a1 x6 M
def p4_weight_J34 (a0 : Nat) (a1 : Nat) (x5 : Int32) (x6 : Int32) (M : mMem) : Option (Int32 × mMem) :=
  p4_weight_L37 gF a0 a1 x5 x6 0 M
def p4_weight_J12 (a0 : Nat) (a1 : Nat) (x2 : Int32) (x3 : Int32) (u0 : Int32) (M : mMem) : Option (Int32 × mMem) :=
  (getI M a1 3 7).bind fun v_1 =>
  (getI M a0 5 9).bind fun v_2 =>
  if 0 < v_2 then
    (p4_gatherFacts a0 a1 x2 x3 M).bind fun q_3 =>
    p4_weight_J34 a0 a1 u0 v_1 q_3
  else
    p4_weight_J34 a0 a1 u0 v_1 M
def p4_weight (a0 : Nat) (a1 : Nat) (x2 : Int32) (x3 : Int32) (x4 : Int32) (M : mMem) : Option (Int32 × mMem) :=
  gd M a0 5 (
    if x4 = 0 then
      p4_weight_J12 a0 a1 x2 x3 17 M
    else
      p4_weight_J12 a0 a1 x2 x3 18 M)
abbrev rm2_moved : Room := { frames := 0, cells := 0, slots := 0, locals := 0 }
def p2_moved_J49 (M : mMem) (u0 : Int32) : Option Int32 :=
  some u0
def p2_moved_J13 (M : mMem) (a0 : Nat) (u0 : Int32) : Option Int32 :=
  if u0 < 0 then
    (getI M a0 3 5).bind fun v_3 =>
    some (u0 + v_3)
  else
    (getI M a0 3 5).bind fun v_1 =>
    if u0 < v_1 then
      p2_moved_J49 M u0
    else
      (getI M a0 3 5).bind fun v_2 =>
      p2_moved_J49 M (u0 - v_2)
def p2_moved (a0 : Nat) (x1 : Int32) (x2 : Int32) (x3 : Int32) (M : mMem) : Option Int32 :=
  gd M a0 3 (
    if x3 = 0 then
      p2_moved_J13 M a0 (x1 - x2)
    else
      p2_moved_J13 M a0 (x1 + x2))
abbrev rm0_ageBehind : Room := { frames := 3, cells := 0, slots := 0, locals := 83 }
def p0_ageBehind_J12 (a0 : Nat) (x1 : Int32) (x2 : Int32) (x3 : Int32) (u0 : Int32) (M : mMem) : Option (Int32 × mMem) :=
  (getR M a0 1 2).bind fun v_1 =>
  (p2_at v_1 x1 M).bind fun v_2 =>
  (putI M v_2 9 0 x2).bind fun M_3 =>
  (getR M_3 a0 1 2).bind fun v_4 =>
  (getR M_3 a0 1 1).bind fun v_5 =>
  (getR M_3 a0 1 2).bind fun v_6 =>
  (divI x3 2).bind fun v_7 =>
  (p4_weight v_5 v_6 v_7 x1 u0 M_3).bind fun q_8 =>
  (p2_moved v_4 x2 q_8.1 u0 q_8.2).bind fun v_9 =>
  some (v_9, q_8.2)
def p0_ageBehind (a0 : Nat) (x1 : Int32) (x2 : Int32) (x3 : Int32) (M : mMem) : Option (Int32 × mMem) :=
  gd M a0 1 (
    (remI x3 2).bind fun v_1 =>
    if v_1 = 1 then
      p0_ageBehind_J12 a0 x1 x2 x3 1 M
    else
      p0_ageBehind_J12 a0 x1 x2 x3 0 M)
abbrev rm0_isPlace : Room := { frames := 0, cells := 0, slots := 0, locals := 0 }
def p0_isPlace_J15 (M : mMem) (u0 : Int32) : Option Int32 :=
  (bZ u0).bind fun z => some z
def p0_isPlace_J14 (M : mMem) : Option Int32 :=
  p0_isPlace_J15 M 0
def p0_isPlace (x0 : Int32) (M : mMem) : Option Int32 :=
  if x0 < 0 then
    p0_isPlace_J14 M
  else
    if x0 < 99 then
      p0_isPlace_J15 M 1
    else
      p0_isPlace_J14 M
abbrev rm8_take : Room := { frames := 0, cells := 0, slots := 0, locals := 0 }
def p8_take (a0 : Nat) (a1 : Nat) (M : mMem) : Option mMem :=
  gd M a0 9 (
    (getI M a1 9 0).bind fun v_1 =>
    (putI M a0 9 0 v_1).bind fun M_2 =>
    (getI M_2 a1 9 1).bind fun v_3 =>
    (putI M_2 a0 9 1 v_3).bind fun M_4 =>
    (getI M_4 a1 9 2).bind fun v_5 =>
    (putI M_4 a0 9 2 v_5).bind fun M_6 =>
    (getI M_6 a1 9 3).bind fun v_7 =>
    (putI M_6 a0 9 3 v_7).bind fun M_8 =>
    (getI M_8 a1 9 4).bind fun v_9 =>
    (putI M_8 a0 9 4 v_9).bind fun M_10 =>
    (getI M_10 a1 9 5).bind fun v_11 =>
    (putI M_10 a0 9 5 v_11).bind fun M_12 =>
    (getI M_12 a1 9 6).bind fun v_13 =>
    (putI M_12 a0 9 6 v_13).bind fun M_14 =>
    (getI M_14 a1 9 7).bind fun v_15 =>
    (putI M_14 a0 9 7 v_15).bind fun M_16 =>
    (getI M_16 a1 9 8).bind fun v_17 =>
    (putI M_16 a0 9 8 v_17).bind fun M_18 =>
    some M_18)
abbrev rm6_take : Room := { frames := 1, cells := 0, slots := 0, locals := 48 }
def p6_take (a0 : Nat) (a1 : Nat) (M : mMem) : Option mMem :=
  gd M a0 7 (
    (getR M a1 7 0).bind fun v_1 =>
    (getR M a0 7 0).bind fun v_2 =>
    (getR M a0 7 0).bind fun v_3 =>
    (lenA M v_3).bind fun v_4 =>
    (cpyI M v_1 0 v_2 0 v_4).bind fun M_5 =>
    (getI M_5 a1 7 1).bind fun v_6 =>
    (putI M_5 a0 7 1 v_6).bind fun M_7 =>
    (getI M_7 a1 7 2).bind fun v_8 =>
    (putI M_7 a0 7 2 v_8).bind fun M_9 =>
    some M_9)
abbrev rm2_take : Room := { frames := 2, cells := 0, slots := 0, locals := 69 }
def p2_take_L2 : Nat → Nat → Nat → Int32 → mMem → Option mMem
  | 0, _, _, _, _ => none
  | n + 1, a0, a1, x2, M =>
    (getR M a0 3 0).bind fun v_1 =>
    (lenA M v_1).bind fun v_2 =>
    if x2 < v_2 then
      (getR M a0 3 0).bind fun v_25 =>
      (aldR M v_25 24 x2).bind fun v_26 =>
      (p2_at a1 x2 M).bind fun v_27 =>
      (p8_take v_26 v_27 M).bind fun q_28 =>
      (p2_take_L2 n) a0 a1 (x2 + 1) q_28
    else
      (getR M a1 3 2).bind fun v_3 =>
      (getR M a0 3 2).bind fun v_4 =>
      (getR M a0 3 2).bind fun v_5 =>
      (lenA M v_5).bind fun v_6 =>
      (cpyI M v_3 0 v_4 0 v_6).bind fun M_7 =>
      (getR M_7 a0 3 3).bind fun v_8 =>
      (getR M_7 a1 3 3).bind fun v_9 =>
      (p6_take v_8 v_9 M_7).bind fun q_10 =>
      (getI q_10 a1 3 4).bind fun v_11 =>
      (putI q_10 a0 3 4 v_11).bind fun M_12 =>
      (getI M_12 a1 3 5).bind fun v_13 =>
      (putI M_12 a0 3 5 v_13).bind fun M_14 =>
      (getI M_14 a1 3 6).bind fun v_15 =>
      (putI M_14 a0 3 6 v_15).bind fun M_16 =>
      (getI M_16 a1 3 7).bind fun v_17 =>
      (putI M_16 a0 3 7 v_17).bind fun M_18 =>
      (getI M_18 a1 3 8).bind fun v_19 =>
      (putI M_18 a0 3 8 v_19).bind fun M_20 =>
      (getI M_20 a1 3 9).bind fun v_21 =>
      (putI M_20 a0 3 9 v_21).bind fun M_22 =>
      (getI M_22 a1 3 10).bind fun v_23 =>
      (putI M_22 a0 3 10 v_23).bind fun M_24 =>
      some M_24
def p2_take (a0 : Nat) (a1 : Nat) (M : mMem) : Option mMem :=
  gd M a0 3 (
    p2_take_L2 gF a0 a1 0 M)
abbrev rmJ7_fill : Room := { frames := 0, cells := 0, slots := 0, locals := 0 }
def pJ7_fill_L5 : Nat → Nat → Int32 → Int32 → Int32 → mMem → Option mMem
  | 0, _, _, _, _, _ => none
  | n + 1, a0, x1, x2, x3, M =>
    if x2 < x3 then
      (astI M a0 x2 x1).bind fun M_1 =>
      (pJ7_fill_L5 n) a0 x1 (x2 + 1) x3 M_1
    else
      some M
def pJ7_fill (a0 : Nat) (x1 : Int32) (M : mMem) : Option mMem :=
  (lenA M a0).bind fun v_1 =>
  pJ7_fill_L5 gF a0 x1 0 v_1 M
abbrev rm0_reach : Room := { frames := 1, cells := 0, slots := 0, locals := 32 }
def p0_reach_J100 (M : mMem) : Option mMem :=
  some M
def p0_reach_J74 (a0 : Nat) (x1 : Int32) (x2 : Int32) (x3 : Int32) (M : mMem) : Option mMem :=
  (getR M a0 1 3).bind fun v_1 =>
  (aldI M v_1 20 x1).bind fun v_2 =>
  if v_2 = x2 then
    (getR M a0 1 4).bind fun v_3 =>
    (getR M a0 1 4).bind fun v_4 =>
    (aldI M v_4 20 x1).bind fun v_5 =>
    (astI M v_3 x1 (minI v_5 x3)).bind fun M_6 =>
    p0_reach_J100 M_6
  else
    p0_reach_J100 M
def p0_reach (a0 : Nat) (x1 : Int32) (x2 : Int32) (x3 : Int32) (M : mMem) : Option mMem :=
  gd M a0 1 (
    (p0_isPlace x1 M).bind fun v_1 =>
    if v_1 = 0 then
      some M
    else
      (getR M a0 1 3).bind fun v_2 =>
      (aldI M v_2 20 x1).bind fun v_3 =>
      if v_3 = (-1) then
        (getI M a0 1 7).bind fun v_4 =>
        if v_4 < 0 then
          p0_reach_J74 a0 x1 x2 x3 M
        else
          (getI M a0 1 7).bind fun v_5 =>
          (getR M a0 1 5).bind fun v_6 =>
          (lenA M v_6).bind fun v_7 =>
          if v_5 < v_7 then
            (getR M a0 1 3).bind fun v_8 =>
            (astI M v_8 x1 x2).bind fun M_9 =>
            (getR M_9 a0 1 4).bind fun v_10 =>
            (astI M_9 v_10 x1 x3).bind fun M_11 =>
            (getR M_11 a0 1 5).bind fun v_12 =>
            (getI M_11 a0 1 7).bind fun v_13 =>
            (astI M_11 v_12 v_13 x1).bind fun M_14 =>
            (getI M_14 a0 1 7).bind fun v_15 =>
            (putI M_14 a0 1 7 (v_15 + 1)).bind fun M_16 =>
            p0_reach_J100 M_16
          else
            p0_reach_J74 a0 x1 x2 x3 M
      else
        p0_reach_J74 a0 x1 x2 x3 M)
abbrev rm0_reachFrom : Room := { frames := 4, cells := 0, slots := 0, locals := 107 }
def p0_reachFrom_J141 (M : mMem) : Option mMem :=
  some M
def p0_reachFrom_J129 (rec70 : Nat → Int32 → Int32 → Int32 → Int32 → mMem → Option mMem) (a0 : Nat) (x1 : Int32) (x2 : Int32) (x3 : Int32) (x4 : Int32) (M : mMem) : Option mMem :=
  rec70 a0 x1 x2 x3 (x4 + 1) M
def p0_reachFrom_J126 (rec70 : Nat → Int32 → Int32 → Int32 → Int32 → mMem → Option mMem) (a0 : Nat) (x1 : Int32) (x2 : Int32) (x3 : Int32) (x4 : Int32) (b0 : Nat) (u1 : Int32) (u2 : Int32) (u3 : Int32) (M : mMem) : Option mMem :=
  (p0_reach b0 u1 u2 u3 M).bind fun q_1 =>
  p0_reachFrom_J129 rec70 a0 x1 x2 x3 x4 q_1
def p0_reachFrom_L70 (k135 : Nat → Int32 → Int32 → mMem → Option mMem) : Nat → Nat → Int32 → Int32 → Int32 → Int32 → mMem → Option mMem
  | 0, _, _, _, _, _, _ => none
  | n + 1, a0, x1, x2, x3, x4, M =>
    if x4 < 16 then
      (p0_isPlace x3 M).bind fun v_1 =>
      if v_1 = 0 then
        k135 a0 x1 x2 M
      else
        (p0_canBeSaid a0 x4 x1 M).bind fun v_2 =>
        if v_2 = 0 then
          p0_reachFrom_J129 (p0_reachFrom_L70 k135 n) a0 x1 x2 x3 x4 M
        else
          (p0_ageBehind a0 x1 x3 x4 M).bind fun q_3 =>
          (getR q_3.2 a0 1 3).bind fun v_4 =>
          (aldI q_3.2 v_4 20 x3).bind fun v_5 =>
          if x2 = 0 then
            p0_reachFrom_J126 (p0_reachFrom_L70 k135 n) a0 x1 x2 x3 x4 a0 q_3.1 (v_5 + 1) x4 q_3.2
          else
            (getR q_3.2 a0 1 4).bind fun v_6 =>
            (aldI q_3.2 v_6 20 x3).bind fun v_7 =>
            p0_reachFrom_J126 (p0_reachFrom_L70 k135 n) a0 x1 x2 x3 x4 a0 q_3.1 (v_5 + 1) v_7 q_3.2
    else
      k135 a0 x1 x2 M
def p0_reachFrom_J135 (rec43 : Nat → Int32 → Int32 → mMem → Option mMem) (a0 : Nat) (x1 : Int32) (x2 : Int32) (M : mMem) : Option mMem :=
  rec43 a0 x1 (x2 + 1) M
def p0_reachFrom_L43 : Nat → Nat → Int32 → Int32 → mMem → Option mMem
  | 0, _, _, _, _ => none
  | n + 1, a0, x1, x2, M =>
    (getI M a0 1 7).bind fun v_1 =>
    if x2 < v_1 then
      (getR M a0 1 5).bind fun v_2 =>
      (lenA M v_2).bind fun v_3 =>
      if x2 < v_3 then
        (getR M a0 1 5).bind fun v_4 =>
        (aldI M v_4 20 x2).bind fun v_5 =>
        p0_reachFrom_L70 (p0_reachFrom_J135 (p0_reachFrom_L43 n)) gF a0 x1 x2 v_5 0 M
      else
        p0_reachFrom_J141 M
    else
      p0_reachFrom_J141 M
def p0_reachFrom (a0 : Nat) (x1 : Int32) (M : mMem) : Option mMem :=
  gd M a0 1 (
    (getR M a0 1 2).bind fun v_1 =>
    (getR M a0 1 0).bind fun v_2 =>
    (p2_take v_1 v_2 M).bind fun q_3 =>
    (getR q_3 a0 1 3).bind fun v_4 =>
    (pJ7_fill v_4 (-1) q_3).bind fun q_5 =>
    (putI q_5 a0 1 7 0).bind fun M_6 =>
    (getR M_6 a0 1 0).bind fun v_7 =>
    (p2_at v_7 x1 M_6).bind fun v_8 =>
    (getI M_6 v_8 9 0).bind fun v_9 =>
    (p0_reach a0 v_9 0 (-1) M_6).bind fun q_10 =>
    p0_reachFrom_L43 gF a0 x1 0 q_10)
abbrev rm0_stepsTo : Room := { frames := 5, cells := 0, slots := 0, locals := 131 }
def p0_stepsTo_J22 (u0 : Int32) (M : mMem) : Option (Int32 × mMem) :=
  some (u0, M)
def p0_stepsTo (a0 : Nat) (x1 : Int32) (x2 : Int32) (M : mMem) : Option (Int32 × mMem) :=
  gd M a0 1 (
    (p0_reachFrom a0 x1 M).bind fun q_1 =>
    (p0_isPlace x2 q_1).bind fun v_2 =>
    if v_2 = 0 then
      p0_stepsTo_J22 (-1) q_1
    else
      (getR q_1 a0 1 3).bind fun v_3 =>
      (aldI q_1 v_3 20 x2).bind fun v_4 =>
      p0_stepsTo_J22 v_4 q_1)
abbrev rm0_firstTo : Room := { frames := 5, cells := 0, slots := 0, locals := 131 }
def p0_firstTo_J31 (u0 : Int32) (M : mMem) : Option (Int32 × mMem) :=
  some (u0, M)
def p0_firstTo_J30 (M : mMem) : Option (Int32 × mMem) :=
  p0_firstTo_J31 (-1) M
def p0_firstTo (a0 : Nat) (x1 : Int32) (x2 : Int32) (M : mMem) : Option (Int32 × mMem) :=
  gd M a0 1 (
    (p0_reachFrom a0 x1 M).bind fun q_1 =>
    (p0_isPlace x2 q_1).bind fun v_2 =>
    if v_2 = 0 then
      p0_firstTo_J30 q_1
    else
      (getR q_1 a0 1 3).bind fun v_3 =>
      (aldI q_1 v_3 20 x2).bind fun v_4 =>
      if 0 < v_4 then
        (getR q_1 a0 1 4).bind fun v_5 =>
        (aldI q_1 v_5 20 x2).bind fun v_6 =>
        p0_firstTo_J31 v_6 q_1
      else
        p0_firstTo_J30 q_1)
abbrev rm0_within : Room := { frames := 5, cells := 0, slots := 0, locals := 131 }
def p0_within_J45 (rec10 : Nat → Int32 → Int32 → Int32 → mMem → Option (Int32 × mMem)) (a0 : Nat) (x2 : Int32) (x3 : Int32) (x4 : Int32) (M : mMem) : Option (Int32 × mMem) :=
  rec10 a0 x2 x3 (x4 + 1) M
def p0_within_L10 : Nat → Nat → Int32 → Int32 → Int32 → mMem → Option (Int32 × mMem)
  | 0, _, _, _, _, _ => none
  | n + 1, a0, x2, x3, x4, M =>
    (getR M a0 1 3).bind fun v_1 =>
    (lenA M v_1).bind fun v_2 =>
    if x4 < v_2 then
      (getR M a0 1 3).bind fun v_3 =>
      (aldI M v_3 20 x4).bind fun v_4 =>
      if v_4 = (-1) then
        p0_within_J45 (p0_within_L10 n) a0 x2 x3 x4 M
      else
        (getR M a0 1 3).bind fun v_5 =>
        (aldI M v_5 20 x4).bind fun v_6 =>
        if x2 < v_6 then
          p0_within_J45 (p0_within_L10 n) a0 x2 x3 x4 M
        else
          p0_within_J45 (p0_within_L10 n) a0 x2 (x3 + 1) x4 M
    else
      some (x3, M)
def p0_within (a0 : Nat) (x1 : Int32) (x2 : Int32) (M : mMem) : Option (Int32 × mMem) :=
  gd M a0 1 (
    (p0_reachFrom a0 x1 M).bind fun q_1 =>
    p0_within_L10 gF a0 x2 0 0 q_1)
abbrev rm0_heaviest : Room := { frames := 3, cells := 0, slots := 0, locals := 83 }
def p0_heaviest_J64 (rec8 : Nat → Int32 → Int32 → Int32 → Int32 → Int32 → mMem → Option (Int32 × mMem)) (a0 : Nat) (x1 : Int32) (x2 : Int32) (x3 : Int32) (x4 : Int32) (x5 : Int32) (M : mMem) : Option (Int32 × mMem) :=
  rec8 a0 x1 x2 x3 x4 (x5 + 1) M
def p0_heaviest_L8 : Nat → Nat → Int32 → Int32 → Int32 → Int32 → Int32 → mMem → Option (Int32 × mMem)
  | 0, _, _, _, _, _, _, _ => none
  | n + 1, a0, x1, x2, x3, x4, x5, M =>
    (getR M a0 1 0).bind fun v_1 =>
    (getI M v_1 3 4).bind fun v_2 =>
    if x5 < v_2 then
      (getR M a0 1 0).bind fun v_3 =>
      (p2_governs v_3 x5 x1 M).bind fun v_4 =>
      if v_4 = 0 then
        p0_heaviest_J64 (p0_heaviest_L8 n) a0 x1 x2 x3 x4 x5 M
      else
        (getR M a0 1 1).bind fun v_5 =>
        (getR M a0 1 0).bind fun v_6 =>
        (p4_weight v_5 v_6 x5 x1 x2 M).bind fun q_7 =>
        if x4 < q_7.1 then
          p0_heaviest_J64 (p0_heaviest_L8 n) a0 x1 x2 x5 q_7.1 x5 q_7.2
        else
          p0_heaviest_J64 (p0_heaviest_L8 n) a0 x1 x2 x3 x4 x5 q_7.2
    else
      some (x3, M)
def p0_heaviest (a0 : Nat) (x1 : Int32) (x2 : Int32) (M : mMem) : Option (Int32 × mMem) :=
  gd M a0 1 (
    p0_heaviest_L8 gF a0 x1 x2 (-1) (-1) 0 M)
