abbrev rm12_trial : Room := { frames := 11, cells := 0, slots := 0, locals := 261 }
def p12_trial_J55 (a0 : Nat) (u0 : Int32) (M : mMem) : Option (Int32 × mMem) :=
  (p12_bringsBack a0 M).bind fun q_1 =>
  some (u0, q_1)
def p12_trial_J21 (a0 : Nat) (x1 : Int32) (x2 : Int32) (b0 : Nat) (u1 : Int32) (M : mMem) : Option (Int32 × mMem) :=
  (p12_throwsIf b0 u1 1 M).bind fun q_1 =>
  if q_1.1 = 0 then
    (p12_keepsAll a0 q_1.2).bind fun q_2 =>
    (p12_goesOn a0 x1 q_2).bind fun q_3 =>
    if x2 = 0 then
      (p12_agesOfAll a0 q_3.2).bind fun v_4 =>
      p12_trial_J55 a0 v_4 q_3.2
    else
      (p12_cribOnes a0 q_3.2).bind fun v_5 =>
      p12_trial_J55 a0 v_5 q_3.2
  else
    some (0, q_1.2)
def p12_trial (a0 : Nat) (x1 : Int32) (x2 : Int32) (M : mMem) : Option (Int32 × mMem) :=
  gd M a0 12 (
    (putI M a0 12 0 0).bind fun M_1 =>
    (p12_in x1 0 100 M_1).bind fun v_2 =>
    if v_2 = 0 then
      p12_trial_J21 a0 x1 x2 a0 1 M_1
    else
      p12_trial_J21 a0 x1 x2 a0 0 M_1)
abbrev rm12_span : Room := { frames := 11, cells := 0, slots := 0, locals := 261 }
def p12_span_J99 (rec39 : Nat → Int32 → Int32 → Int32 → Int32 → mMem → Option (Int32 × mMem)) (a0 : Nat) (x1 : Int32) (x2 : Int32) (x4 : Int32) (u0 : Int32) (M : mMem) : Option (Int32 × mMem) :=
  rec39 a0 x1 x2 u0 (x4 + 1) M
def p12_span_L39 : Nat → Nat → Int32 → Int32 → Int32 → Int32 → mMem → Option (Int32 × mMem)
  | 0, _, _, _, _, _, _ => none
  | n + 1, a0, x1, x2, x3, x4, M =>
    if 6 < x4 then
      some (x3, M)
    else
      (getR M a0 12 1).bind fun v_1 =>
      (astI M v_1 8 x4).bind fun M_2 =>
      (p12_goesOn a0 x1 M_2).bind fun q_3 =>
      (p12_agesOfAll a0 q_3.2).bind fun v_4 =>
      (p12_bringsBack a0 q_3.2).bind fun q_5 =>
      if x3 < 0 then
        p12_span_J99 (p12_span_L39 n) a0 x1 x2 x4 v_4 q_5
      else
        if x2 = 0 then
          p12_span_J99 (p12_span_L39 n) a0 x1 x2 x4 (minI x3 v_4) q_5
        else
          p12_span_J99 (p12_span_L39 n) a0 x1 x2 x4 (maxI x3 v_4) q_5
def p12_span_J21 (a0 : Nat) (x1 : Int32) (x2 : Int32) (b0 : Nat) (u1 : Int32) (M : mMem) : Option (Int32 × mMem) :=
  (p12_throwsIf b0 u1 1 M).bind fun q_1 =>
  if q_1.1 = 0 then
    (p12_keepsAll a0 q_1.2).bind fun q_2 =>
    p12_span_L39 gF a0 x1 x2 (-1) 1 q_2
  else
    some (0, q_1.2)
def p12_span (a0 : Nat) (x1 : Int32) (x2 : Int32) (M : mMem) : Option (Int32 × mMem) :=
  gd M a0 12 (
    (putI M a0 12 0 0).bind fun M_1 =>
    (p12_in x1 0 100 M_1).bind fun v_2 =>
    if v_2 = 0 then
      p12_span_J21 a0 x1 x2 a0 1 M_1
    else
      p12_span_J21 a0 x1 x2 a0 0 M_1)
abbrev rm12_led : Room := { frames := 2, cells := 0, slots := 0, locals := 43 }
def p12_led_J67 (rec36 : Nat → Int32 → Int32 → Int32 → Int32 → Int32 → mMem → Option (Int32 × mMem)) (a0 : Nat) (x1 : Int32) (x2 : Int32) (x3 : Int32) (x4 : Int32) (x5 : Int32) (M : mMem) : Option (Int32 × mMem) :=
  rec36 a0 x1 x2 x3 x4 (x5 + (-1)) M
def p12_led_L36 (k73 : Int32 → Int32 → Int32 → mMem → Option (Int32 × mMem)) : Nat → Nat → Int32 → Int32 → Int32 → Int32 → Int32 → mMem → Option (Int32 × mMem)
  | 0, _, _, _, _, _, _, _ => none
  | n + 1, a0, x1, x2, x3, x4, x5, M =>
    if x5 < 0 then
      k73 x2 x3 x4 M
    else
      (p12_ofLog a0 x5 2 M).bind fun v_1 =>
      if v_1 = x1 then
        (p12_ofLog a0 x5 0 M).bind fun v_2 =>
        p12_led_J67 (p12_led_L36 k73 n) a0 x1 x2 (x3 + 1) v_2 x5 M
      else
        p12_led_J67 (p12_led_L36 k73 n) a0 x1 x2 x3 x4 x5 M
def p12_led_J83 (u0 : Int32) (M : mMem) : Option (Int32 × mMem) :=
  some (u0, M)
def p12_led_J73 (x2 : Int32) (x3 : Int32) (x4 : Int32) (M : mMem) : Option (Int32 × mMem) :=
  if x2 = 0 then
    p12_led_J83 x3 M
  else
    p12_led_J83 x4 M
def p12_led (a0 : Nat) (x1 : Int32) (x2 : Int32) (M : mMem) : Option (Int32 × mMem) :=
  gd M a0 12 (
    (putI M a0 12 0 0).bind fun M_1 =>
    (p12_nobody a0 x1 M_1).bind fun v_2 =>
    (p12_throwsIf a0 v_2 1 M_1).bind fun q_3 =>
    if q_3.1 = 0 then
      (getR q_3.2 a0 12 1).bind fun v_4 =>
      (aldI q_3.2 v_4 20 7).bind fun v_5 =>
      p12_led_L36 p12_led_J73 gF a0 x1 x2 0 (-1) (v_5 - 1) q_3.2
    else
      some (0, q_3.2))
abbrev rm12_log : Room := { frames := 1, cells := 0, slots := 0, locals := 22 }
def p12_log_J56 (u0 : Int32) (M : mMem) : Option (Int32 × mMem) :=
  some (u0, M)
def p12_log_J20 (a0 : Nat) (x1 : Int32) (x2 : Int32) (b0 : Nat) (u1 : Int32) (M : mMem) : Option (Int32 × mMem) :=
  (p12_throwsIf b0 u1 1 M).bind fun q_1 =>
  if q_1.1 = 0 then
    (getR q_1.2 a0 12 1).bind fun v_2 =>
    (aldI q_1.2 v_2 20 7).bind fun v_3 =>
    (p12_in x1 0 (v_3 - 1) q_1.2).bind fun v_4 =>
    if v_4 = 0 then
      p12_log_J56 (-1) q_1.2
    else
      (p12_ofLog a0 x1 x2 q_1.2).bind fun v_5 =>
      p12_log_J56 v_5 q_1.2
  else
    some (0, q_1.2)
def p12_log (a0 : Nat) (x1 : Int32) (x2 : Int32) (M : mMem) : Option (Int32 × mMem) :=
  gd M a0 12 (
    (putI M a0 12 0 0).bind fun M_1 =>
    (p12_in x2 0 4 M_1).bind fun v_2 =>
    if v_2 = 0 then
      p12_log_J20 a0 x1 x2 a0 1 M_1
    else
      p12_log_J20 a0 x1 x2 a0 0 M_1)
abbrev rm12_seed : Room := { frames := 0, cells := 0, slots := 0, locals := 0 }
def p12_seed (a0 : Nat) (x1 : Int32) (M : mMem) : Option (Int32 × mMem) :=
  gd M a0 12 (
    (putI M a0 12 0 0).bind fun M_1 =>
    (getR M_1 a0 12 1).bind fun v_2 =>
    (aldI M_1 v_2 20 8).bind fun v_3 =>
    (getR M_1 a0 12 1).bind fun v_4 =>
    (astI M_1 v_4 8 x1).bind fun M_5 =>
    some (v_3, M_5))
abbrev rm12_count : Room := { frames := 4, cells := 0, slots := 0, locals := 86 }
def p12_count_J73 (rec15 : Nat → Int32 → Int32 → Int32 → Int32 → Int32 → mMem → Option (Int32 × mMem)) (a0 : Nat) (x1 : Int32) (x2 : Int32) (x3 : Int32) (x5 : Int32) (u0 : Int32) (u1 : Int32) (M : mMem) : Option (Int32 × mMem) :=
  rec15 a0 x1 x2 x3 (u0 ||| u1) (x5 + 1) M
def p12_count_J52 (rec15 : Nat → Int32 → Int32 → Int32 → Int32 → Int32 → mMem → Option (Int32 × mMem)) (a0 : Nat) (x1 : Int32) (x2 : Int32) (x4 : Int32) (x5 : Int32) (u0 : Int32) (u1 : Int32) (M : mMem) : Option (Int32 × mMem) :=
  (p12_isSingle a0 x5 M).bind fun v_1 =>
  if v_1 = 0 then
    p12_count_J73 rec15 a0 x1 x2 (u0 ||| u1) x5 x4 ((1 : Int32) <<< (x5 &&& 31)) M
  else
    p12_count_J73 rec15 a0 x1 x2 (u0 ||| u1) x5 x4 0 M
def p12_count_L15 (k82 : Nat → Int32 → Int32 → Int32 → Int32 → mMem → Option (Int32 × mMem)) : Nat → Nat → Int32 → Int32 → Int32 → Int32 → Int32 → mMem → Option (Int32 × mMem)
  | 0, _, _, _, _, _, _, _ => none
  | n + 1, a0, x1, x2, x3, x4, x5, M =>
    (p12_people a0 M).bind fun v_1 =>
    if x5 < v_1 then
      (p12_of a0 x5 1 M).bind fun v_2 =>
      (p12_isBoy a0 x5 M).bind fun v_3 =>
      if v_3 = 0 then
        p12_count_J52 (p12_count_L15 k82 n) a0 x1 (x2 + v_2) x4 x5 x3 0 M
      else
        p12_count_J52 (p12_count_L15 k82 n) a0 x1 (x2 + v_2) x4 x5 x3 ((1 : Int32) <<< (x5 &&& 31)) M
    else
      k82 a0 x1 x2 x3 x4 M
def p12_count_J208 (u0 : Int32) (M : mMem) : Option (Int32 × mMem) :=
  some (u0, M)
def p12_count_J162 (u0 : Int32) (M : mMem) : Option (Int32 × mMem) :=
  some (u0, M)
def p12_count_J82 (a0 : Nat) (x1 : Int32) (x2 : Int32) (x3 : Int32) (x4 : Int32) (M : mMem) : Option (Int32 × mMem) :=
  swI x1 (
    (p12_in x1 0 6 M).bind fun v_1 =>
    if v_1 = 0 then
      p12_count_J208 (-1) M
    else
      (getR M a0 12 1).bind fun v_2 =>
      (aldI M v_2 20 x1).bind fun v_3 =>
      p12_count_J208 v_3 M) [(2,
    (getR M a0 12 1).bind fun v_4 =>
    (aldI M v_4 20 2).bind fun v_5 =>
    if v_5 = 1 then
      (getR M a0 12 1).bind fun v_6 =>
      (aldI M v_6 20 445).bind fun v_7 =>
      p12_count_J162 v_7 M
    else
      p12_count_J162 (-1) M), (3,
    (p12_in x1 0 6 M).bind fun v_8 =>
    if v_8 = 0 then
      p12_count_J208 (-1) M
    else
      (getR M a0 12 1).bind fun v_9 =>
      (aldI M v_9 20 x1).bind fun v_10 =>
      p12_count_J208 v_10 M), (4,
    (p12_in x1 0 6 M).bind fun v_11 =>
    if v_11 = 0 then
      p12_count_J208 (-1) M
    else
      (getR M a0 12 1).bind fun v_12 =>
      (aldI M v_12 20 x1).bind fun v_13 =>
      p12_count_J208 v_13 M), (5,
    (p12_in x1 0 6 M).bind fun v_14 =>
    if v_14 = 0 then
      p12_count_J208 (-1) M
    else
      (getR M a0 12 1).bind fun v_15 =>
      (aldI M v_15 20 x1).bind fun v_16 =>
      p12_count_J208 v_16 M), (6,
    (p12_in x1 0 6 M).bind fun v_17 =>
    if v_17 = 0 then
      p12_count_J208 (-1) M
    else
      (getR M a0 12 1).bind fun v_18 =>
      (aldI M v_18 20 x1).bind fun v_19 =>
      p12_count_J208 v_19 M), (7,
    (p12_agesOfAll a0 M).bind fun v_20 =>
    some (v_20, M)), (8,
    some (x2, M)), (9,
    some (x3, M)), (10,
    some (x4, M)), (11,
    (getR M a0 12 1).bind fun v_21 =>
    (aldI M v_21 20 7).bind fun v_22 =>
    some (v_22, M)), (12,
    (getI M a0 12 7).bind fun v_23 =>
    some (v_23, M))]
def p12_count (a0 : Nat) (x1 : Int32) (M : mMem) : Option (Int32 × mMem) :=
  gd M a0 12 (
    (putI M a0 12 0 0).bind fun M_1 =>
    p12_count_L15 p12_count_J82 gF a0 x1 0 0 0 0 M_1)
