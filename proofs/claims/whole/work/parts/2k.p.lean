abbrev rm12_toAge : Room := { frames := 10, cells := 0, slots := 0, locals := 241 }
def p12_toAge_J40 (u0 : Int32) (M : mMem) : Option (Int32 × mMem) :=
  some (u0, M)
def p12_toAge (a0 : Nat) (x1 : Int32) (x2 : Int32) (x3 : Int32) (M : mMem) : Option (Int32 × mMem) :=
  gd M a0 12 (
    (p12_looksRound a0 x1 1000000 M).bind fun q_1 =>
    if x3 = 0 then
      (getR q_1 a0 12 18).bind fun v_2 =>
      (aldI q_1 v_2 20 x2).bind fun v_3 =>
      p12_toAge_J40 v_3 q_1
    else
      (getR q_1 a0 12 18).bind fun v_4 =>
      (aldI q_1 v_4 20 x2).bind fun v_5 =>
      if v_5 = (-1) then
        p12_toAge_J40 (-1) q_1
      else
        (getR q_1 a0 12 19).bind fun v_6 =>
        (aldI q_1 v_6 20 x2).bind fun v_7 =>
        p12_toAge_J40 v_7 q_1)
abbrev rm12_fewest : Room := { frames := 11, cells := 0, slots := 0, locals := 264 }
def p12_fewest_J42 (u0 : Int32) (M : mMem) : Option (Int32 × mMem) :=
  some (u0, M)
def p12_fewest_J31 (M : mMem) : Option (Int32 × mMem) :=
  p12_fewest_J42 0 M
def p12_fewest (a0 : Nat) (x1 : Int32) (x2 : Int32) (M : mMem) : Option (Int32 × mMem) :=
  gd M a0 12 (
    (putI M a0 12 0 0).bind fun M_1 =>
    (p12_nobody a0 x1 M_1).bind fun v_2 =>
    (p12_throwsIf a0 v_2 1 M_1).bind fun q_3 =>
    if q_3.1 = 0 then
      (p12_noAge a0 x2 q_3.2).bind fun v_4 =>
      (p12_throwsIf a0 v_4 2 q_3.2).bind fun q_5 =>
      if q_5.1 = 0 then
        (p12_toAge a0 x1 x2 0 q_5.2).bind fun q_6 =>
        p12_fewest_J42 q_6.1 q_6.2
      else
        p12_fewest_J31 q_5.2
    else
      p12_fewest_J31 q_3.2)
abbrev rm12_first : Room := { frames := 11, cells := 0, slots := 0, locals := 264 }
def p12_first_J42 (u0 : Int32) (M : mMem) : Option (Int32 × mMem) :=
  some (u0, M)
def p12_first_J31 (M : mMem) : Option (Int32 × mMem) :=
  p12_first_J42 0 M
def p12_first (a0 : Nat) (x1 : Int32) (x2 : Int32) (M : mMem) : Option (Int32 × mMem) :=
  gd M a0 12 (
    (putI M a0 12 0 0).bind fun M_1 =>
    (p12_nobody a0 x1 M_1).bind fun v_2 =>
    (p12_throwsIf a0 v_2 1 M_1).bind fun q_3 =>
    if q_3.1 = 0 then
      (p12_noAge a0 x2 q_3.2).bind fun v_4 =>
      (p12_throwsIf a0 v_4 2 q_3.2).bind fun q_5 =>
      if q_5.1 = 0 then
        (p12_toAge a0 x1 x2 1 q_5.2).bind fun q_6 =>
        p12_first_J42 q_6.1 q_6.2
      else
        p12_first_J31 q_5.2
    else
      p12_first_J31 q_3.2)
abbrev rm12_can : Room := { frames := 10, cells := 0, slots := 0, locals := 241 }
def p12_can_J41 (M : mMem) : Option (Int32 × mMem) :=
  some (0, M)
def p12_can_J34 (a0 : Nat) (x1 : Int32) (x2 : Int32) (b0 : Nat) (u1 : Int32) (M : mMem) : Option (Int32 × mMem) :=
  (p12_throwsIf b0 u1 2 M).bind fun q_1 =>
  if q_1.1 = 0 then
    (p12_looksRound a0 x1 x2 q_1.2).bind fun q_2 =>
    (getI q_2 a0 12 21).bind fun v_3 =>
    some (v_3, q_2)
  else
    p12_can_J41 q_1.2
def p12_can (a0 : Nat) (x1 : Int32) (x2 : Int32) (M : mMem) : Option (Int32 × mMem) :=
  gd M a0 12 (
    (putI M a0 12 0 0).bind fun M_1 =>
    (p12_nobody a0 x1 M_1).bind fun v_2 =>
    (p12_throwsIf a0 v_2 1 M_1).bind fun q_3 =>
    if q_3.1 = 0 then
      (p12_in x2 0 20 q_3.2).bind fun v_4 =>
      if v_4 = 0 then
        p12_can_J34 a0 x1 x2 a0 1 q_3.2
      else
        p12_can_J34 a0 x1 x2 a0 0 q_3.2
    else
      p12_can_J41 q_3.2)
abbrev rm12_heaviest : Room := { frames := 7, cells := 0, slots := 0, locals := 167 }
def p12_heaviest_J50 (rec5 : Nat → Int32 → Int32 → Int32 → Int32 → mMem → Option (Int32 × mMem)) (a0 : Nat) (x1 : Int32) (x2 : Int32) (x3 : Int32) (x4 : Int32) (M : mMem) : Option (Int32 × mMem) :=
  rec5 a0 x1 x2 x3 (x4 + 1) M
def p12_heaviest_J47 (rec5 : Nat → Int32 → Int32 → Int32 → Int32 → mMem → Option (Int32 × mMem)) (a0 : Nat) (x1 : Int32) (x2 : Int32) (x4 : Int32) (M : mMem) : Option (Int32 × mMem) :=
  p12_heaviest_J50 rec5 a0 x1 x2 x4 x4 M
def p12_heaviest_L5 : Nat → Nat → Int32 → Int32 → Int32 → Int32 → mMem → Option (Int32 × mMem)
  | 0, _, _, _, _, _, _ => none
  | n + 1, a0, x1, x2, x3, x4, M =>
    (p12_people a0 M).bind fun v_1 =>
    if x4 < v_1 then
      (p12_governs a0 x4 x1 M).bind fun v_2 =>
      if v_2 = 0 then
        p12_heaviest_J50 (p12_heaviest_L5 n) a0 x1 x2 x3 x4 M
      else
        if x3 = (-1) then
          p12_heaviest_J47 (p12_heaviest_L5 n) a0 x1 x2 x4 M
        else
          (p12_weighsOf a0 x4 x1 x2 M).bind fun q_3 =>
          (p12_weighsOf a0 x3 x1 x2 q_3.2).bind fun q_4 =>
          if q_4.1 < q_3.1 then
            p12_heaviest_J47 (p12_heaviest_L5 n) a0 x1 x2 x4 q_4.2
          else
            p12_heaviest_J50 (p12_heaviest_L5 n) a0 x1 x2 x3 x4 q_4.2
    else
      some (x3, M)
def p12_heaviest (a0 : Nat) (x1 : Int32) (x2 : Int32) (M : mMem) : Option (Int32 × mMem) :=
  gd M a0 12 (
    p12_heaviest_L5 gF a0 x1 x2 (-1) 0 M)
abbrev rm12_harsh : Room := { frames := 8, cells := 0, slots := 0, locals := 191 }
def p12_harsh_J28 (u0 : Int32) (M : mMem) : Option (Int32 × mMem) :=
  some (u0, M)
def p12_harsh (a0 : Nat) (x1 : Int32) (M : mMem) : Option (Int32 × mMem) :=
  gd M a0 12 (
    (putI M a0 12 0 0).bind fun M_1 =>
    (p12_nobody a0 x1 M_1).bind fun v_2 =>
    (p12_throwsIf a0 v_2 1 M_1).bind fun q_3 =>
    if q_3.1 = 0 then
      (p12_heaviest a0 x1 0 q_3.2).bind fun q_4 =>
      p12_harsh_J28 q_4.1 q_4.2
    else
      p12_harsh_J28 0 q_3.2)
abbrev rm12_kind : Room := { frames := 8, cells := 0, slots := 0, locals := 191 }
def p12_kind_J28 (u0 : Int32) (M : mMem) : Option (Int32 × mMem) :=
  some (u0, M)
def p12_kind (a0 : Nat) (x1 : Int32) (M : mMem) : Option (Int32 × mMem) :=
  gd M a0 12 (
    (putI M a0 12 0 0).bind fun M_1 =>
    (p12_nobody a0 x1 M_1).bind fun v_2 =>
    (p12_throwsIf a0 v_2 1 M_1).bind fun q_3 =>
    if q_3.1 = 0 then
      (p12_heaviest a0 x1 1 q_3.2).bind fun q_4 =>
      p12_kind_J28 q_4.1 q_4.2
    else
      p12_kind_J28 0 q_3.2)
abbrev rm12_isTold : Room := { frames := 2, cells := 0, slots := 0, locals := 43 }
def p12_isTold_J63 (M : mMem) (x1 : Int32) : Option Int32 :=
  (bZ x1).bind fun z => some z
def p12_isTold_J56 (M : mMem) (rec26 : Nat → Int32 → Int32 → Option Int32) (a0 : Nat) (x2 : Int32) (u0 : Int32) : Option Int32 :=
  rec26 a0 u0 (x2 + 1)
def p12_isTold_L26 (M : mMem) : Nat → Nat → Int32 → Int32 → Option Int32
  | 0, _, _, _ => none
  | n + 1, a0, x1, x2 =>
    (getI M a0 12 11).bind fun v_1 =>
    if x2 < v_1 then
      if x1 = 0 then
        p12_isTold_J63 M x1
      else
        (getR M a0 12 8).bind fun v_2 =>
        (aldI M v_2 21 x2).bind fun v_3 =>
        (p12_noAge a0 v_3 M).bind fun v_4 =>
        if v_4 = 0 then
          p12_isTold_J56 M (p12_isTold_L26 M n) a0 x2 1
        else
          p12_isTold_J56 M (p12_isTold_L26 M n) a0 x2 0
    else
      p12_isTold_J63 M x1
def p12_isTold_J23 (M : mMem) (a0 : Nat) (u0 : Int32) : Option Int32 :=
  p12_isTold_L26 M gF a0 u0 0
def p12_isTold_J22 (M : mMem) (a0 : Nat) : Option Int32 :=
  p12_isTold_J23 M a0 0
def p12_isTold (a0 : Nat) (M : mMem) : Option Int32 :=
  gd M a0 12 (
    (getI M a0 12 11).bind fun v_1 =>
    (remI v_1 2).bind fun v_2 =>
    if v_2 = 0 then
      (getI M a0 12 11).bind fun v_3 =>
      if 40 < v_3 then
        p12_isTold_J22 M a0
      else
        p12_isTold_J23 M a0 1
    else
      p12_isTold_J22 M a0)
abbrev rm12_allThatFit : Room := { frames := 9, cells := 0, slots := 0, locals := 216 }
def p12_allThatFit_J71 (rec27 : Nat → Int32 → Int32 → Int32 → Int32 → Int32 → mMem → Option (Int32 × mMem)) (a0 : Nat) (x1 : Int32) (x2 : Int32) (x3 : Int32) (x5 : Int32) (u0 : Int32) (M : mMem) : Option (Int32 × mMem) :=
  rec27 a0 x1 x2 x3 u0 (x5 + 2) M
def p12_allThatFit_L27 (k79 : Nat → Int32 → Int32 → Int32 → Int32 → mMem → Option (Int32 × mMem)) : Nat → Nat → Int32 → Int32 → Int32 → Int32 → Int32 → mMem → Option (Int32 × mMem)
  | 0, _, _, _, _, _, _, _ => none
  | n + 1, a0, x1, x2, x3, x4, x5, M =>
    (getI M a0 12 11).bind fun v_1 =>
    if x5 < v_1 then
      if x4 = 0 then
        k79 a0 x1 x2 x3 x4 M
      else
        (getR M a0 12 8).bind fun v_2 =>
        (aldI M v_2 21 x5).bind fun v_3 =>
        (p12_fromAge a0 x1 v_3 x3 M).bind fun q_4 =>
        (getR q_4.2 a0 12 8).bind fun v_5 =>
        (aldI q_4.2 v_5 21 (x5 + 1)).bind fun v_6 =>
        if q_4.1 = v_6 then
          p12_allThatFit_J71 (p12_allThatFit_L27 k79 n) a0 x1 x2 x3 x5 1 q_4.2
        else
          p12_allThatFit_J71 (p12_allThatFit_L27 k79 n) a0 x1 x2 x3 x5 0 q_4.2
    else
      k79 a0 x1 x2 x3 x4 M
def p12_allThatFit_J92 (rec4 : Nat → Int32 → Int32 → Int32 → mMem → Option (Int32 × mMem)) (a0 : Nat) (x1 : Int32) (x3 : Int32) (u0 : Int32) (u1 : Int32) (M : mMem) : Option (Int32 × mMem) :=
  rec4 a0 x1 (u0 ||| u1) (x3 + 1) M
def p12_allThatFit_J79 (rec4 : Nat → Int32 → Int32 → Int32 → mMem → Option (Int32 × mMem)) (a0 : Nat) (x1 : Int32) (x2 : Int32) (x3 : Int32) (x4 : Int32) (M : mMem) : Option (Int32 × mMem) :=
  if x4 = 0 then
    p12_allThatFit_J92 rec4 a0 x1 x3 x2 0 M
  else
    p12_allThatFit_J92 rec4 a0 x1 x3 x2 ((1 : Int32) <<< (x3 &&& 31)) M
def p12_allThatFit_L4 : Nat → Nat → Int32 → Int32 → Int32 → mMem → Option (Int32 × mMem)
  | 0, _, _, _, _, _ => none
  | n + 1, a0, x1, x2, x3, M =>
    (p12_people a0 M).bind fun v_1 =>
    if x3 < ((2 : Int32) * v_1) then
      (divI x3 2).bind fun v_2 =>
      (p12_governs a0 v_2 x1 M).bind fun v_3 =>
      p12_allThatFit_L27 (p12_allThatFit_J79 (p12_allThatFit_L4 n)) gF a0 x1 x2 x3 v_3 0 M
    else
      some (x2, M)
def p12_allThatFit (a0 : Nat) (x1 : Int32) (M : mMem) : Option (Int32 × mMem) :=
  gd M a0 12 (
    p12_allThatFit_L4 gF a0 x1 0 0 M)
abbrev rm12_said : Room := { frames := 10, cells := 0, slots := 0, locals := 241 }
def p12_said_J46 (u0 : Int32) (M : mMem) : Option (Int32 × mMem) :=
  some (u0, M)
def p12_said_J37 (M : mMem) : Option (Int32 × mMem) :=
  p12_said_J46 0 M
def p12_said_J30 (a0 : Nat) (x1 : Int32) (b0 : Nat) (u1 : Int32) (M : mMem) : Option (Int32 × mMem) :=
  (p12_throwsIf b0 u1 2 M).bind fun q_1 =>
  if q_1.1 = 0 then
    (p12_allThatFit a0 x1 q_1.2).bind fun q_2 =>
    p12_said_J46 q_2.1 q_2.2
  else
    p12_said_J37 q_1.2
def p12_said (a0 : Nat) (x1 : Int32) (M : mMem) : Option (Int32 × mMem) :=
  gd M a0 12 (
    (p12_uses a0 M).bind fun q_1 =>
    (p12_nobody a0 x1 q_1).bind fun v_2 =>
    (p12_throwsIf a0 v_2 1 q_1).bind fun q_3 =>
    if q_3.1 = 0 then
      (p12_isTold a0 q_3.2).bind fun v_4 =>
      if v_4 = 0 then
        p12_said_J30 a0 x1 a0 1 q_3.2
      else
        p12_said_J30 a0 x1 a0 0 q_3.2
    else
      p12_said_J37 q_3.2)
abbrev rm12_partBy : Room := { frames := 9, cells := 0, slots := 0, locals := 216 }
def p12_partBy_L6 (k27 : Nat → Int32 → Int32 → Int32 → Int32 → mMem → Option (Int32 × mMem)) : Nat → Nat → Int32 → Int32 → Int32 → Int32 → Int32 → mMem → Option (Int32 × mMem)
  | 0, _, _, _, _, _, _, _ => none
  | n + 1, a0, x1, x2, x3, x4, x5, M =>
    if x5 < 99 then
      (getR M a0 12 22).bind fun v_1 =>
      (astI M v_1 x5 0).bind fun M_2 =>
      (p12_partBy_L6 k27 n) a0 x1 x2 x3 x4 (x5 + 1) M_2
    else
      k27 a0 x1 x2 x3 x4 M
def p12_partBy_J88 (rec30 : Nat → Int32 → Int32 → Int32 → Int32 → Int32 → mMem → Option (Int32 × mMem)) (a0 : Nat) (x1 : Int32) (x2 : Int32) (x3 : Int32) (x4 : Int32) (x5 : Int32) (M : mMem) : Option (Int32 × mMem) :=
  rec30 a0 x1 x2 x3 x4 (x5 + 1) M
def p12_partBy_L30 : Nat → Nat → Int32 → Int32 → Int32 → Int32 → Int32 → mMem → Option (Int32 × mMem)
  | 0, _, _, _, _, _, _, _ => none
  | n + 1, a0, x1, x2, x3, x4, x5, M =>
    (p12_people a0 M).bind fun v_1 =>
    if x5 < ((2 : Int32) * v_1) then
      (p12_has x3 x5 M).bind fun v_2 =>
      if v_2 = 0 then
        p12_partBy_J88 (p12_partBy_L30 n) a0 x1 x2 x3 x4 x5 M
      else
        (p12_fromAge a0 x1 x2 x5 M).bind fun q_3 =>
        (getR q_3.2 a0 12 22).bind fun v_4 =>
        (aldI q_3.2 v_4 20 q_3.1).bind fun v_5 =>
        (astI q_3.2 v_4 q_3.1 (v_5 + 1)).bind fun M_6 =>
        (getR M_6 a0 12 22).bind fun v_7 =>
        (aldI M_6 v_7 20 q_3.1).bind fun v_8 =>
        p12_partBy_J88 (p12_partBy_L30 n) a0 x1 x2 x3 (maxI x4 v_8) x5 M_6
    else
      some (x4, M)
def p12_partBy_J27 (a0 : Nat) (x1 : Int32) (x2 : Int32) (x3 : Int32) (x4 : Int32) (M : mMem) : Option (Int32 × mMem) :=
  p12_partBy_L30 gF a0 x1 x2 x3 x4 0 M
def p12_partBy (a0 : Nat) (x1 : Int32) (x2 : Int32) (x3 : Int32) (M : mMem) : Option (Int32 × mMem) :=
  gd M a0 12 (
    p12_partBy_L6 p12_partBy_J27 gF a0 x1 x2 x3 0 0 M)
abbrev rm12_ask : Room := { frames := 10, cells := 0, slots := 0, locals := 242 }
def p12_ask_J37 (M : mMem) : Option (Int32 × mMem) :=
  some (0, M)
def p12_ask_J98 (rec64 : Nat → Int32 → Int32 → Int32 → Int32 → Int32 → mMem → Option (Int32 × mMem)) (a0 : Nat) (x1 : Int32) (x2 : Int32) (x4 : Int32) (x5 : Int32) (x6 : Int32) (u0 : Int32) (M : mMem) : Option (Int32 × mMem) :=
  rec64 a0 x1 x2 u0 (minI x4 x6) (x5 + 1) M
def p12_ask_L64 : Nat → Nat → Int32 → Int32 → Int32 → Int32 → Int32 → mMem → Option (Int32 × mMem)
  | 0, _, _, _, _, _, _, _ => none
  | n + 1, a0, x1, x2, x3, x4, x5, M =>
    (getR M a0 12 1).bind fun v_1 =>
    (aldI M v_1 20 4).bind fun v_2 =>
    if x5 < v_2 then
      (p12_partBy a0 x1 x5 x2 M).bind fun q_3 =>
      if q_3.1 < x4 then
        p12_ask_J98 (p12_ask_L64 n) a0 x1 x2 x4 x5 q_3.1 x5 q_3.2
      else
        p12_ask_J98 (p12_ask_L64 n) a0 x1 x2 x4 x5 q_3.1 x3 q_3.2
    else
      some (x3, M)
def p12_ask_J30 (a0 : Nat) (x1 : Int32) (b0 : Nat) (u1 : Int32) (M : mMem) : Option (Int32 × mMem) :=
  (p12_throwsIf b0 u1 2 M).bind fun q_1 =>
  if q_1.1 = 0 then
    (p12_allThatFit a0 x1 q_1.2).bind fun q_2 =>
    (pJ6_bitCount q_2.1 q_2.2).bind fun v_3 =>
    if v_3 < 2 then
      some ((-1), q_2.2)
    else
      p12_ask_L64 gF a0 x1 q_2.1 (-1) 1000000 0 q_2.2
  else
    p12_ask_J37 q_1.2
def p12_ask (a0 : Nat) (x1 : Int32) (M : mMem) : Option (Int32 × mMem) :=
  gd M a0 12 (
    (p12_uses a0 M).bind fun q_1 =>
    (p12_nobody a0 x1 q_1).bind fun v_2 =>
    (p12_throwsIf a0 v_2 1 q_1).bind fun q_3 =>
    if q_3.1 = 0 then
      (p12_isTold a0 q_3.2).bind fun v_4 =>
      if v_4 = 0 then
        p12_ask_J30 a0 x1 a0 1 q_3.2
      else
        p12_ask_J30 a0 x1 a0 0 q_3.2
    else
      p12_ask_J37 q_3.2)
abbrev rm12_canPair : Room := { frames := 4, cells := 0, slots := 0, locals := 87 }
def p12_canPair_J46 (M : mMem) (u0 : Int32) : Option Int32 :=
  (bZ u0).bind fun z => some z
def p12_canPair_J45 (M : mMem) : Option Int32 :=
  p12_canPair_J46 M 0
def p12_canPair (a0 : Nat) (x1 : Int32) (x2 : Int32) (M : mMem) : Option Int32 :=
  gd M a0 12 (
    (p12_isBoy a0 x1 M).bind fun v_1 =>
    if v_1 = 0 then
      p12_canPair_J45 M
    else
      (p12_isBoy a0 x2 M).bind fun v_2 =>
      if v_2 = 0 then
        (p12_isSingle a0 x1 M).bind fun v_3 =>
        if v_3 = 0 then
          p12_canPair_J45 M
        else
          (p12_isSingle a0 x2 M).bind fun v_4 =>
          if v_4 = 0 then
            p12_canPair_J45 M
          else
            (p12_areClose a0 x1 x2 M).bind fun v_5 =>
            if v_5 = 0 then
              p12_canPair_J46 M 1
            else
              p12_canPair_J45 M
      else
        p12_canPair_J45 M)
abbrev rm12_worthAt : Room := { frames := 0, cells := 0, slots := 0, locals := 0 }
def p12_worthAt (x0 : Int32) (x1 : Int32) (M : mMem) : Option Int32 :=
  some ((x0 <<< (8 &&& 31)) + x1)
abbrev rm12_worthBy : Room := { frames := 5, cells := 0, slots := 0, locals := 109 }
def p12_worthBy_J38 (M : mMem) : Option Int32 :=
  some (-1000000)
def p12_worthBy (a0 : Nat) (x1 : Int32) (x2 : Int32) (x3 : Int32) (M : mMem) : Option Int32 :=
  gd M a0 12 (
    (p12_people a0 M).bind fun v_1 =>
    if x3 = v_1 then
      (getR M a0 12 23).bind fun v_8 =>
      (p12_worthAt (x1 + 1) x2 M).bind fun v_9 =>
      (aldI M v_8 20 v_9).bind fun v_10 =>
      some v_10
    else
      (p12_has x2 x3 M).bind fun v_2 =>
      if v_2 = 0 then
        (p12_canPair a0 x1 x3 M).bind fun v_3 =>
        if v_3 = 0 then
          p12_worthBy_J38 M
        else
          (p12_gapOf a0 x1 x3 M).bind fun v_4 =>
          (getR M a0 12 23).bind fun v_5 =>
          (p12_worthAt (x1 + 1) (x2 ||| ((1 : Int32) <<< (x3 &&& 31))) M).bind fun v_6 =>
          (aldI M v_5 20 v_6).bind fun v_7 =>
          some (((1000 : Int32) - v_4) + v_7)
      else
        p12_worthBy_J38 M)
abbrev rm12_laysWorth : Room := { frames := 6, cells := 0, slots := 0, locals := 132 }
def p12_laysWorth_L2 (k29 : Nat → mMem → Option mMem) : Nat → Nat → Int32 → mMem → Option mMem
  | 0, _, _, _ => none
  | n + 1, a0, x1, M =>
    if x1 < 256 then
      (getR M a0 12 23).bind fun v_1 =>
      (p12_people a0 M).bind fun v_2 =>
      (p12_worthAt v_2 x1 M).bind fun v_3 =>
      (astI M v_1 v_3 0).bind fun M_4 =>
      (p12_laysWorth_L2 k29 n) a0 (x1 + 1) M_4
    else
      k29 a0 M
def p12_laysWorth_L56 (k84 : Nat → Int32 → Int32 → Int32 → mMem → Option mMem) : Nat → Nat → Int32 → Int32 → Int32 → Int32 → mMem → Option mMem
  | 0, _, _, _, _, _, _ => none
  | n + 1, a0, x1, x2, x3, x4, M =>
    (p12_people a0 M).bind fun v_1 =>
    if v_1 < x4 then
      k84 a0 x1 x2 x3 M
    else
      (p12_worthBy a0 x1 x2 x4 M).bind fun v_2 =>
      (p12_laysWorth_L56 k84 n) a0 x1 x2 (maxI x3 v_2) (x4 + 1) M
def p12_laysWorth_J84 (rec42 : Nat → Int32 → Int32 → mMem → Option mMem) (a0 : Nat) (x1 : Int32) (x2 : Int32) (x3 : Int32) (M : mMem) : Option mMem :=
  (getR M a0 12 23).bind fun v_1 =>
  (p12_worthAt x1 x2 M).bind fun v_2 =>
  (astI M v_1 v_2 x3).bind fun M_3 =>
  rec42 a0 x1 (x2 + 1) M_3
def p12_laysWorth_L42 (k101 : Nat → Int32 → mMem → Option mMem) : Nat → Nat → Int32 → Int32 → mMem → Option mMem
  | 0, _, _, _, _ => none
  | n + 1, a0, x1, x2, M =>
    if x2 < 256 then
      p12_laysWorth_L56 (p12_laysWorth_J84 (p12_laysWorth_L42 k101 n)) gF a0 x1 x2 (-1000000) 0 M
    else
      k101 a0 x1 M
def p12_laysWorth_J101 (rec36 : Nat → Int32 → mMem → Option mMem) (a0 : Nat) (x1 : Int32) (M : mMem) : Option mMem :=
  rec36 a0 (x1 + (-1)) M
def p12_laysWorth_L36 : Nat → Nat → Int32 → mMem → Option mMem
  | 0, _, _, _ => none
  | n + 1, a0, x1, M =>
    if x1 < 0 then
      some M
    else
      p12_laysWorth_L42 (p12_laysWorth_J101 (p12_laysWorth_L36 n)) gF a0 x1 0 M
def p12_laysWorth_J29 (a0 : Nat) (M : mMem) : Option mMem :=
  (p12_people a0 M).bind fun v_1 =>
  p12_laysWorth_L36 gF a0 (v_1 - 1) M
def p12_laysWorth (a0 : Nat) (M : mMem) : Option mMem :=
  gd M a0 12 (
    p12_laysWorth_L2 p12_laysWorth_J29 gF a0 0 M)
abbrev rm12_noMates : Room := { frames := 0, cells := 0, slots := 0, locals := 0 }
def p12_noMates_L2 : Nat → Nat → Int32 → mMem → Option mMem
  | 0, _, _, _ => none
  | n + 1, a0, x1, M =>
    if x1 < 8 then
      (getR M a0 12 24).bind fun v_1 =>
      (astI M v_1 x1 (-1)).bind fun M_2 =>
      (p12_noMates_L2 n) a0 (x1 + 1) M_2
    else
      some M
def p12_noMates (a0 : Nat) (M : mMem) : Option mMem :=
  gd M a0 12 (
    p12_noMates_L2 gF a0 0 M)
abbrev rm12_matches : Room := { frames := 7, cells := 0, slots := 0, locals := 156 }
def p12_matches_L22 (k48 : Nat → Int32 → Int32 → Int32 → mMem → Option mMem) : Nat → Nat → Int32 → Int32 → Int32 → mMem → Option mMem
  | 0, _, _, _, _, _ => none
  | n + 1, a0, x1, x2, x3, M =>
    (p12_worthBy a0 x2 x1 x3 M).bind fun v_1 =>
    (getR M a0 12 23).bind fun v_2 =>
    (p12_worthAt x2 x1 M).bind fun v_3 =>
    (aldI M v_2 20 v_3).bind fun v_4 =>
    if v_1 = v_4 then
      k48 a0 x1 x2 x3 M
    else
      (p12_matches_L22 k48 n) a0 x1 x2 (x3 + 1) M
def p12_matches_J79 (rec12 : Nat → Int32 → Int32 → mMem → Option mMem) (a0 : Nat) (x1 : Int32) (x2 : Int32) (M : mMem) : Option mMem :=
  rec12 a0 x1 (x2 + 1) M
def p12_matches_J48 (rec12 : Nat → Int32 → Int32 → mMem → Option mMem) (a0 : Nat) (x1 : Int32) (x2 : Int32) (x3 : Int32) (M : mMem) : Option mMem :=
  (p12_people a0 M).bind fun v_1 =>
  if x3 = v_1 then
    p12_matches_J79 rec12 a0 x1 x2 M
  else
    (getR M a0 12 24).bind fun v_2 =>
    (astI M v_2 x2 x3).bind fun M_3 =>
    (getR M_3 a0 12 24).bind fun v_4 =>
    (astI M_3 v_4 x3 x2).bind fun M_5 =>
    p12_matches_J79 rec12 a0 (x1 ||| ((1 : Int32) <<< (x3 &&& 31))) x2 M_5
def p12_matches_L12 : Nat → Nat → Int32 → Int32 → mMem → Option mMem
  | 0, _, _, _, _ => none
  | n + 1, a0, x1, x2, M =>
    (p12_people a0 M).bind fun v_1 =>
    if x2 < v_1 then
      p12_matches_L22 (p12_matches_J48 (p12_matches_L12 n)) gF a0 x1 x2 0 M
    else
      some M
def p12_matches (a0 : Nat) (M : mMem) : Option mMem :=
  gd M a0 12 (
    (p12_laysWorth a0 M).bind fun q_1 =>
    (p12_noMates a0 q_1).bind fun q_2 =>
    p12_matches_L12 gF a0 0 0 q_2)
abbrev rm12_match : Room := { frames := 8, cells := 0, slots := 0, locals := 179 }
def p12_match_J61 (rec13 : Nat → Int32 → Int32 → Int32 → mMem → Option (Int32 × mMem)) (a0 : Nat) (x1 : Int32) (x2 : Int32) (x3 : Int32) (M : mMem) : Option (Int32 × mMem) :=
  rec13 a0 x1 x2 (x3 + 1) M
def p12_match_J59 (rec13 : Nat → Int32 → Int32 → Int32 → mMem → Option (Int32 × mMem)) (a0 : Nat) (x1 : Int32) (x3 : Int32) (u0 : Int32) (u1 : Int32) (M : mMem) : Option (Int32 × mMem) :=
  p12_match_J61 rec13 a0 x1 (u0 + u1) x3 M
def p12_match_L13 : Nat → Nat → Int32 → Int32 → Int32 → mMem → Option (Int32 × mMem)
  | 0, _, _, _, _, _ => none
  | n + 1, a0, x1, x2, x3, M =>
    (p12_people a0 M).bind fun v_1 =>
    if x3 < v_1 then
      (p12_isBoy a0 x3 M).bind fun v_2 =>
      if v_2 = 0 then
        p12_match_J61 (p12_match_L13 n) a0 x1 x2 x3 M
      else
        (getR M a0 12 24).bind fun v_3 =>
        (aldI M v_3 20 x3).bind fun v_4 =>
        if v_4 = (-1) then
          p12_match_J61 (p12_match_L13 n) a0 x1 x2 x3 M
        else
          if x1 = 0 then
            p12_match_J59 (p12_match_L13 n) a0 x1 x3 x2 1 M
          else
            (getR M a0 12 24).bind fun v_5 =>
            (aldI M v_5 20 x3).bind fun v_6 =>
            (p12_gapOf a0 x3 v_6 M).bind fun v_7 =>
            p12_match_J59 (p12_match_L13 n) a0 x1 x3 x2 v_7 M
    else
      some (x2, M)
def p12_match (a0 : Nat) (x1 : Int32) (M : mMem) : Option (Int32 × mMem) :=
  gd M a0 12 (
    (putI M a0 12 0 0).bind fun M_1 =>
    (p12_matches a0 M_1).bind fun q_2 =>
    p12_match_L13 gF a0 x1 0 0 q_2)
abbrev rm12_mate : Room := { frames := 8, cells := 0, slots := 0, locals := 179 }
def p12_mate (a0 : Nat) (x1 : Int32) (M : mMem) : Option (Int32 × mMem) :=
  gd M a0 12 (
    (putI M a0 12 0 0).bind fun M_1 =>
    (p12_nobody a0 x1 M_1).bind fun v_2 =>
    (p12_throwsIf a0 v_2 1 M_1).bind fun q_3 =>
    if q_3.1 = 0 then
      (p12_matches a0 q_3.2).bind fun q_4 =>
      (getR q_4 a0 12 24).bind fun v_5 =>
      (aldI q_4 v_5 20 x1).bind fun v_6 =>
      some (v_6, q_4)
    else
      some (0, q_3.2))
abbrev rm12_nextOf : Room := { frames := 5, cells := 0, slots := 0, locals := 109 }
def p12_nextOf_J56 (M : mMem) (rec4 : Nat → Int32 → Int32 → Int32 → Option Int32) (a0 : Nat) (x1 : Int32) (x2 : Int32) (x3 : Int32) : Option Int32 :=
  rec4 a0 x1 x2 (x3 + 1)
def p12_nextOf_J54 (M : mMem) (rec4 : Nat → Int32 → Int32 → Int32 → Option Int32) (a0 : Nat) (x1 : Int32) (x3 : Int32) : Option Int32 :=
  p12_nextOf_J56 M rec4 a0 x1 x3 x3
def p12_nextOf_L4 (M : mMem) : Nat → Nat → Int32 → Int32 → Int32 → Option Int32
  | 0, _, _, _, _ => none
  | n + 1, a0, x1, x2, x3 =>
    (p12_people a0 M).bind fun v_1 =>
    if x3 < v_1 then
      (p12_canPair a0 x1 x3 M).bind fun v_2 =>
      if v_2 = 0 then
        p12_nextOf_J56 M (p12_nextOf_L4 M n) a0 x1 x2 x3
      else
        (getR M a0 12 25).bind fun v_3 =>
        (aldI M v_3 20 x1).bind fun v_4 =>
        (p12_has v_4 x3 M).bind fun v_5 =>
        if v_5 = 0 then
          if x2 = (-1) then
            p12_nextOf_J54 M (p12_nextOf_L4 M n) a0 x1 x3
          else
            (p12_gapOf a0 x1 x3 M).bind fun v_6 =>
            (p12_gapOf a0 x1 x2 M).bind fun v_7 =>
            if v_6 < v_7 then
              p12_nextOf_J54 M (p12_nextOf_L4 M n) a0 x1 x3
            else
              p12_nextOf_J56 M (p12_nextOf_L4 M n) a0 x1 x2 x3
        else
          p12_nextOf_J56 M (p12_nextOf_L4 M n) a0 x1 x2 x3
    else
      some x2
def p12_nextOf (a0 : Nat) (x1 : Int32) (M : mMem) : Option Int32 :=
  gd M a0 12 (
    p12_nextOf_L4 M gF a0 x1 (-1) 0)
abbrev rm12_wouldRather : Room := { frames := 3, cells := 0, slots := 0, locals := 66 }
def p12_wouldRather_J54 (M : mMem) (u0 : Int32) : Option Int32 :=
  (bZ u0).bind fun z => some z
def p12_wouldRather_J49 (M : mMem) : Option Int32 :=
  p12_wouldRather_J54 M 1
def p12_wouldRather_J53 (M : mMem) : Option Int32 :=
  p12_wouldRather_J54 M 0
def p12_wouldRather (a0 : Nat) (x1 : Int32) (x2 : Int32) (M : mMem) : Option Int32 :=
  gd M a0 12 (
    (getR M a0 12 24).bind fun v_1 =>
    (aldI M v_1 20 x1).bind fun v_2 =>
    if v_2 = (-1) then
      some 1
    else
      (p12_gapOf a0 x1 x2 M).bind fun v_3 =>
      (getR M a0 12 24).bind fun v_4 =>
      (aldI M v_4 20 x1).bind fun v_5 =>
      (p12_gapOf a0 x1 v_5 M).bind fun v_6 =>
      if (v_3 - v_6) < 0 then
        p12_wouldRather_J49 M
      else
        if (v_3 - v_6) = 0 then
          (getR M a0 12 24).bind fun v_7 =>
          (aldI M v_7 20 x1).bind fun v_8 =>
          if x2 < v_8 then
            p12_wouldRather_J49 M
          else
            p12_wouldRather_J53 M
        else
          p12_wouldRather_J53 M)
abbrev rm12_asks : Room := { frames := 6, cells := 0, slots := 0, locals := 132 }
def p12_asks_J65 (a0 : Nat) (x1 : Int32) (x2 : Int32) (M : mMem) : Option mMem :=
  (getR M a0 12 24).bind fun v_1 =>
  (astI M v_1 x2 x1).bind fun M_2 =>
  (getR M_2 a0 12 24).bind fun v_3 =>
  (astI M_2 v_3 x1 x2).bind fun M_4 =>
  some M_4
def p12_asks (a0 : Nat) (x1 : Int32) (M : mMem) : Option mMem :=
  gd M a0 12 (
    (p12_nextOf a0 x1 M).bind fun v_1 =>
    if v_1 = (-1) then
      some M
    else
      (p12_wouldRather a0 v_1 x1 M).bind fun v_2 =>
      if v_2 = 0 then
        (getR M a0 12 25).bind fun v_10 =>
        (aldI M v_10 20 x1).bind fun v_11 =>
        (astI M v_10 x1 (v_11 ||| ((1 : Int32) <<< (v_1 &&& 31)))).bind fun M_12 =>
        some M_12
      else
        (getR M a0 12 24).bind fun v_3 =>
        (aldI M v_3 20 v_1).bind fun v_4 =>
        if v_4 = (-1) then
          p12_asks_J65 a0 x1 v_1 M
        else
          (getR M a0 12 24).bind fun v_5 =>
          (astI M v_5 v_4 (-1)).bind fun M_6 =>
          (getR M_6 a0 12 25).bind fun v_7 =>
          (aldI M_6 v_7 20 v_4).bind fun v_8 =>
          (astI M_6 v_7 v_4 (v_8 ||| ((1 : Int32) <<< (v_1 &&& 31)))).bind fun M_9 =>
          p12_asks_J65 a0 x1 v_1 M_9)
abbrev rm12_stable : Room := { frames := 7, cells := 0, slots := 0, locals := 155 }
def p12_stable_L26 (k45 : Nat → Int32 → mMem → Option (Int32 × mMem)) : Nat → Nat → Int32 → Int32 → mMem → Option (Int32 × mMem)
  | 0, _, _, _, _ => none
  | n + 1, a0, x1, x2, M =>
    if x2 < 8 then
      (getR M a0 12 25).bind fun v_1 =>
      (astI M v_1 x2 0).bind fun M_2 =>
      (p12_stable_L26 k45 n) a0 x1 (x2 + 1) M_2
    else
      k45 a0 x1 M
def p12_stable_J86 (rec55 : Nat → Int32 → Int32 → Int32 → mMem → Option (Int32 × mMem)) (a0 : Nat) (x1 : Int32) (x2 : Int32) (x3 : Int32) (M : mMem) : Option (Int32 × mMem) :=
  rec55 a0 x1 x2 (x3 + 1) M
def p12_stable_L55 (k92 : Nat → Int32 → Int32 → mMem → Option (Int32 × mMem)) : Nat → Nat → Int32 → Int32 → Int32 → mMem → Option (Int32 × mMem)
  | 0, _, _, _, _, _ => none
  | n + 1, a0, x1, x2, x3, M =>
    (p12_people a0 M).bind fun v_1 =>
    if x3 < v_1 then
      (p12_isBoy a0 x3 M).bind fun v_2 =>
      if v_2 = 0 then
        p12_stable_J86 (p12_stable_L55 k92 n) a0 x1 x2 x3 M
      else
        (getR M a0 12 24).bind fun v_3 =>
        (aldI M v_3 20 x3).bind fun v_4 =>
        if v_4 = (-1) then
          (p12_asks a0 x3 M).bind fun q_5 =>
          p12_stable_J86 (p12_stable_L55 k92 n) a0 x1 x2 x3 q_5
        else
          p12_stable_J86 (p12_stable_L55 k92 n) a0 x1 x2 x3 M
    else
      k92 a0 x1 x2 M
def p12_stable_J92 (rec47 : Nat → Int32 → Int32 → mMem → Option (Int32 × mMem)) (a0 : Nat) (x1 : Int32) (x2 : Int32) (M : mMem) : Option (Int32 × mMem) :=
  rec47 a0 x1 (x2 + 1) M
def p12_stable_L47 : Nat → Nat → Int32 → Int32 → mMem → Option (Int32 × mMem)
  | 0, _, _, _, _ => none
  | n + 1, a0, x1, x2, M =>
    if x2 < 64 then
      p12_stable_L55 (p12_stable_J92 (p12_stable_L47 n)) gF a0 x1 x2 0 M
    else
      (getR M a0 12 24).bind fun v_1 =>
      (aldI M v_1 20 x1).bind fun v_2 =>
      some (v_2, M)
def p12_stable_J45 (a0 : Nat) (x1 : Int32) (M : mMem) : Option (Int32 × mMem) :=
  p12_stable_L47 gF a0 x1 0 M
def p12_stable (a0 : Nat) (x1 : Int32) (M : mMem) : Option (Int32 × mMem) :=
  gd M a0 12 (
    (putI M a0 12 0 0).bind fun M_1 =>
    (p12_nobody a0 x1 M_1).bind fun v_2 =>
    (p12_throwsIf a0 v_2 1 M_1).bind fun q_3 =>
    if q_3.1 = 0 then
      (p12_noMates a0 q_3.2).bind fun q_4 =>
      p12_stable_L26 p12_stable_J45 gF a0 x1 0 q_4
    else
      some (0, q_3.2))
abbrev rm12_wouldRun : Room := { frames := 3, cells := 0, slots := 0, locals := 66 }
def p12_wouldRun_J33 (M : mMem) (u0 : Int32) : Option Int32 :=
  (bZ u0).bind fun z => some z
def p12_wouldRun_J28 (M : mMem) : Option Int32 :=
  p12_wouldRun_J33 M 1
def p12_wouldRun (a0 : Nat) (x1 : Int32) (x2 : Int32) (M : mMem) : Option Int32 :=
  gd M a0 12 (
    (p12_isSingle a0 x1 M).bind fun v_1 =>
    if v_1 = 0 then
      (p12_gapOf a0 x1 x2 M).bind fun v_2 =>
      (p12_of a0 x1 4 M).bind fun v_3 =>
      (p12_gapOf a0 x1 v_3 M).bind fun v_4 =>
      if v_2 < v_4 then
        p12_wouldRun_J28 M
      else
        p12_wouldRun_J33 M 0
    else
      p12_wouldRun_J28 M)
abbrev rm12_runs : Room := { frames := 4, cells := 0, slots := 0, locals := 88 }
def p12_runs_J86 (rec19 : Nat → Int32 → Int32 → Int32 → mMem → Option (Int32 × mMem)) (a0 : Nat) (x2 : Int32) (x3 : Int32) (u0 : Int32) (u1 : Int32) (M : mMem) : Option (Int32 × mMem) :=
  rec19 a0 (u0 + u1) x2 (x3 + 1) M
def p12_runs_J85 (rec19 : Nat → Int32 → Int32 → Int32 → mMem → Option (Int32 × mMem)) (a0 : Nat) (x2 : Int32) (x3 : Int32) (u0 : Int32) (M : mMem) : Option (Int32 × mMem) :=
  p12_runs_J86 rec19 a0 x2 x3 u0 0 M
def p12_runs_L19 (k94 : Nat → Int32 → Int32 → mMem → Option (Int32 × mMem)) : Nat → Nat → Int32 → Int32 → Int32 → mMem → Option (Int32 × mMem)
  | 0, _, _, _, _, _ => none
  | n + 1, a0, x1, x2, x3, M =>
    (p12_people a0 M).bind fun v_1 =>
    if x3 < v_1 then
      (p12_isBoy a0 x2 M).bind fun v_2 =>
      if v_2 = 0 then
        p12_runs_J85 (p12_runs_L19 k94 n) a0 x2 x3 x1 M
      else
        (p12_isBoy a0 x3 M).bind fun v_3 =>
        if v_3 = 0 then
          (p12_areClose a0 x2 x3 M).bind fun v_4 =>
          if v_4 = 0 then
            (p12_of a0 x2 4 M).bind fun v_5 =>
            if v_5 = x3 then
              p12_runs_J85 (p12_runs_L19 k94 n) a0 x2 x3 x1 M
            else
              (p12_wouldRun a0 x2 x3 M).bind fun v_6 =>
              if v_6 = 0 then
                p12_runs_J85 (p12_runs_L19 k94 n) a0 x2 x3 x1 M
              else
                (p12_wouldRun a0 x3 x2 M).bind fun v_7 =>
                if v_7 = 0 then
                  p12_runs_J85 (p12_runs_L19 k94 n) a0 x2 x3 x1 M
                else
                  p12_runs_J86 (p12_runs_L19 k94 n) a0 x2 x3 x1 1 M
          else
            p12_runs_J85 (p12_runs_L19 k94 n) a0 x2 x3 x1 M
        else
          p12_runs_J85 (p12_runs_L19 k94 n) a0 x2 x3 x1 M
    else
      k94 a0 x1 x2 M
def p12_runs_J94 (rec9 : Nat → Int32 → Int32 → mMem → Option (Int32 × mMem)) (a0 : Nat) (x1 : Int32) (x2 : Int32) (M : mMem) : Option (Int32 × mMem) :=
  rec9 a0 x1 (x2 + 1) M
def p12_runs_L9 : Nat → Nat → Int32 → Int32 → mMem → Option (Int32 × mMem)
  | 0, _, _, _, _ => none
  | n + 1, a0, x1, x2, M =>
    (p12_people a0 M).bind fun v_1 =>
    if x2 < v_1 then
      p12_runs_L19 (p12_runs_J94 (p12_runs_L9 n)) gF a0 x1 x2 0 M
    else
      some (x1, M)
def p12_runs (a0 : Nat) (M : mMem) : Option (Int32 × mMem) :=
  gd M a0 12 (
    (putI M a0 12 0 0).bind fun M_1 =>
    p12_runs_L9 gF a0 0 0 M_1)
