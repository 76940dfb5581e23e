abbrev rm11_furthest : Room := { frames := 1, cells := 0, slots := 0, locals := 21 }
def p11_furthest_J51 (M : mMem) (rec4 : Nat → Int32 → Int32 → Int32 → Option Int32) (a0 : Nat) (x1 : Int32) (x2 : Int32) (x3 : Int32) : Option Int32 :=
  rec4 a0 x1 x2 (x3 + 1)
def p11_furthest_J49 (M : mMem) (rec4 : Nat → Int32 → Int32 → Int32 → Option Int32) (a0 : Nat) (x1 : Int32) (x3 : Int32) : Option Int32 :=
  p11_furthest_J51 M rec4 a0 x1 x3 x3
def p11_furthest_L4 (M : mMem) : Nat → Nat → Int32 → Int32 → Int32 → Option Int32
  | 0, _, _, _, _ => none
  | n + 1, a0, x1, x2, x3 =>
    (getR M a0 11 3).bind fun v_1 =>
    (getI M v_1 3 4).bind fun v_2 =>
    if x3 < v_2 then
      if x2 = (-1) then
        p11_furthest_J49 M (p11_furthest_L4 M n) a0 x1 x3
      else
        (getR M a0 11 3).bind fun v_3 =>
        (p2_at v_3 x3 M).bind fun v_4 =>
        (getI M v_4 9 0).bind fun v_5 =>
        (getR M a0 11 3).bind fun v_6 =>
        (p2_at v_6 x2 M).bind fun v_7 =>
        (getI M v_7 9 0).bind fun v_8 =>
        if (x1 * v_8) < (x1 * v_5) then
          p11_furthest_J49 M (p11_furthest_L4 M n) a0 x1 x3
        else
          p11_furthest_J51 M (p11_furthest_L4 M n) a0 x1 x2 x3
    else
      some x2
def p11_furthest (a0 : Nat) (x1 : Int32) (M : mMem) : Option Int32 :=
  gd M a0 11 (
    p11_furthest_L4 M gF a0 x1 (-1) 0)
abbrev rm11_oldest : Room := { frames := 2, cells := 0, slots := 0, locals := 44 }
def p11_oldest (a0 : Nat) (M : mMem) : Option Int32 :=
  gd M a0 11 (
    (p11_furthest a0 1 M).bind fun v_1 =>
    some v_1)
abbrev rm11_youngest : Room := { frames := 2, cells := 0, slots := 0, locals := 44 }
def p11_youngest (a0 : Nat) (M : mMem) : Option Int32 :=
  gd M a0 11 (
    (p11_furthest a0 (-1) M).bind fun v_1 =>
    some v_1)
abbrev rm11_crib : Room := { frames := 2, cells := 0, slots := 0, locals := 43 }
def p11_crib (a0 : Nat) (M : mMem) : Option Int32 :=
  gd M a0 11 (
    (getR M a0 11 3).bind fun v_1 =>
    (p2_inCrib v_1 M).bind fun v_2 =>
    some v_2)
abbrev rm11_spread : Room := { frames := 1, cells := 0, slots := 0, locals := 32 }
def p11_spread_J79 (M : mMem) (rec20 : Nat → Int32 → Int32 → Int32 → Int32 → Option Int32) (a0 : Nat) (x1 : Int32) (x2 : Int32) (x4 : Int32) (u0 : Int32) (u1 : Int32) : Option Int32 :=
  rec20 a0 x1 x2 (maxI u0 u1) (x4 + 1)
def p11_spread_L20 (M : mMem) (k89 : Nat → Int32 → Int32 → Int32 → Option Int32) : Nat → Nat → Int32 → Int32 → Int32 → Int32 → Option Int32
  | 0, _, _, _, _, _ => none
  | n + 1, a0, x1, x2, x3, x4 =>
    (getR M a0 11 3).bind fun v_1 =>
    (getI M v_1 3 4).bind fun v_2 =>
    if x4 < v_2 then
      (getR M a0 11 3).bind fun v_3 =>
      (p2_at v_3 x4 M).bind fun v_4 =>
      (getI M v_4 9 0).bind fun v_5 =>
      (getR M a0 11 3).bind fun v_6 =>
      (p2_at v_6 x2 M).bind fun v_7 =>
      (getI M v_7 9 0).bind fun v_8 =>
      if (v_5 - v_8) < 0 then
        (getR M a0 11 3).bind fun v_9 =>
        (getI M v_9 3 5).bind fun v_10 =>
        p11_spread_J79 M (p11_spread_L20 M k89 n) a0 x1 x2 x4 x3 ((v_5 - v_8) + v_10)
      else
        p11_spread_J79 M (p11_spread_L20 M k89 n) a0 x1 x2 x4 x3 (v_5 - v_8)
    else
      k89 a0 x1 x2 x3
def p11_spread_J101 (M : mMem) (rec4 : Nat → Int32 → Int32 → Option Int32) (a0 : Nat) (x1 : Int32) (x2 : Int32) : Option Int32 :=
  rec4 a0 x1 (x2 + 1)
def p11_spread_J99 (M : mMem) (rec4 : Nat → Int32 → Int32 → Option Int32) (a0 : Nat) (x2 : Int32) (x3 : Int32) : Option Int32 :=
  p11_spread_J101 M rec4 a0 x3 x2
def p11_spread_J89 (M : mMem) (rec4 : Nat → Int32 → Int32 → Option Int32) (a0 : Nat) (x1 : Int32) (x2 : Int32) (x3 : Int32) : Option Int32 :=
  if x1 = (-1) then
    p11_spread_J99 M rec4 a0 x2 x3
  else
    if x3 < x1 then
      p11_spread_J99 M rec4 a0 x2 x3
    else
      p11_spread_J101 M rec4 a0 x1 x2
def p11_spread_L4 (M : mMem) (k107 : Int32 → Option Int32) : Nat → Nat → Int32 → Int32 → Option Int32
  | 0, _, _, _ => none
  | n + 1, a0, x1, x2 =>
    (getR M a0 11 3).bind fun v_1 =>
    (getI M v_1 3 4).bind fun v_2 =>
    if x2 < v_2 then
      p11_spread_L20 M (p11_spread_J89 M (p11_spread_L4 M k107 n)) gF a0 x1 x2 0 0
    else
      k107 x1
def p11_spread_J117 (M : mMem) (u0 : Int32) : Option Int32 :=
  some u0
def p11_spread_J107 (M : mMem) (x1 : Int32) : Option Int32 :=
  if x1 = (-1) then
    p11_spread_J117 M 0
  else
    p11_spread_J117 M x1
def p11_spread (a0 : Nat) (M : mMem) : Option Int32 :=
  gd M a0 11 (
    p11_spread_L4 M (p11_spread_J107 M) gF a0 (-1) 0)
abbrev rm11_seed : Room := { frames := 0, cells := 0, slots := 0, locals := 0 }
def p11_seed (a0 : Nat) (x1 : Int32) (M : mMem) : Option (Int32 × mMem) :=
  gd M a0 11 (
    (getR M a0 11 3).bind fun v_1 =>
    (getI M v_1 3 9).bind fun v_2 =>
    (getR M a0 11 3).bind fun v_3 =>
    (putI M v_3 3 9 x1).bind fun M_4 =>
    some (v_2, M_4))
abbrev rm11_undo : Room := { frames := 3, cells := 0, slots := 0, locals := 91 }
def p11_undo_J19 (M : mMem) : Option (Int32 × mMem) :=
  some (0, M)
def p11_undo (a0 : Nat) (M : mMem) : Option (Int32 × mMem) :=
  gd M a0 11 (
    (getI M a0 11 10).bind fun v_1 =>
    if 0 < v_1 then
      (getI M a0 11 10).bind fun v_2 =>
      (getR M a0 11 9).bind fun v_3 =>
      (lenA M v_3).bind fun v_4 =>
      if v_4 < v_2 then
        p11_undo_J19 M
      else
        (getI M a0 11 10).bind fun v_5 =>
        (putI M a0 11 10 (v_5 - 1)).bind fun M_6 =>
        (getR M_6 a0 11 3).bind fun v_7 =>
        (getR M_6 a0 11 9).bind fun v_8 =>
        (getI M_6 a0 11 10).bind fun v_9 =>
        (aldR M_6 v_8 23 v_9).bind fun v_10 =>
        (p2_take v_7 v_10 M_6).bind fun q_11 =>
        some (1, q_11)
    else
      p11_undo_J19 M)
abbrev rm11_image : Room := { frames := 3, cells := 0, slots := 0, locals := 91 }
def p11_image (a0 : Nat) (M : mMem) : Option mMem :=
  gd M a0 11 (
    (getR M a0 11 11).bind fun v_1 =>
    (getR M a0 11 3).bind fun v_2 =>
    (p2_take v_1 v_2 M).bind fun q_3 =>
    (getR q_3 a0 11 12).bind fun v_4 =>
    (getR q_3 a0 11 5).bind fun v_5 =>
    (p4_take v_4 v_5 q_3).bind fun q_6 =>
    (putI q_6 a0 11 13 1).bind fun M_7 =>
    some M_7)
abbrev rm11_back : Room := { frames := 3, cells := 0, slots := 0, locals := 91 }
def p11_back (a0 : Nat) (M : mMem) : Option (Int32 × mMem) :=
  gd M a0 11 (
    (getI M a0 11 13).bind fun v_1 =>
    if v_1 = 0 then
      some (0, M)
    else
      (getR M a0 11 3).bind fun v_2 =>
      (getR M a0 11 11).bind fun v_3 =>
      (p2_take v_2 v_3 M).bind fun q_4 =>
      (getR q_4 a0 11 5).bind fun v_5 =>
      (getR q_4 a0 11 12).bind fun v_6 =>
      (p4_take v_5 v_6 q_4).bind fun q_7 =>
      (putI q_7 a0 11 10 0).bind fun M_8 =>
      some (1, M_8))
abbrev rm11_count : Room := { frames := 2, cells := 0, slots := 0, locals := 43 }
def p11_count (a0 : Nat) (x1 : Int32) (M : mMem) : Option Int32 :=
  gd M a0 11 (
    swI x1 (
      some (-1)) [(0,
      (getR M a0 11 3).bind fun v_1 =>
      (getI M v_1 3 4).bind fun v_2 =>
      some v_2), (1,
      (getR M a0 11 3).bind fun v_3 =>
      (getI M v_3 3 10).bind fun v_4 =>
      some v_4), (2,
      (getR M a0 11 5).bind fun v_5 =>
      (getI M v_5 5 9).bind fun v_6 =>
      some v_6), (3,
      (getR M a0 11 3).bind fun v_7 =>
      (getI M v_7 3 8).bind fun v_8 =>
      some v_8), (4,
      (getR M a0 11 3).bind fun v_9 =>
      (getI M v_9 3 5).bind fun v_10 =>
      some v_10), (5,
      (getR M a0 11 3).bind fun v_11 =>
      (getI M v_11 3 6).bind fun v_12 =>
      some v_12), (6,
      (getR M a0 11 3).bind fun v_13 =>
      (getI M v_13 3 7).bind fun v_14 =>
      some v_14), (7,
      (getR M a0 11 3).bind fun v_15 =>
      (p2_agesTogether v_15 M).bind fun v_16 =>
      some v_16), (8,
      (getR M a0 11 3).bind fun v_17 =>
      (p2_turnsTogether v_17 M).bind fun v_18 =>
      some v_18), (9,
      (getR M a0 11 3).bind fun v_19 =>
      (p2_boys v_19 M).bind fun v_20 =>
      some v_20), (10,
      (getR M a0 11 3).bind fun v_21 =>
      (p2_wedded v_21 M).bind fun v_22 =>
      some v_22), (11,
      (getR M a0 11 3).bind fun v_23 =>
      (getR M v_23 3 3).bind fun v_24 =>
      (getI M v_24 7 2).bind fun v_25 =>
      some v_25), (12,
      (getI M a0 11 10).bind fun v_26 =>
      some v_26)])
abbrev rm12_thrown : Room := { frames := 0, cells := 0, slots := 0, locals := 0 }
def p12_thrown (a0 : Nat) (M : mMem) : Option Int32 :=
  gd M a0 12 (
    (getI M a0 12 0).bind fun v_1 =>
    some v_1)
abbrev rm12_throwsIf : Room := { frames := 0, cells := 0, slots := 0, locals := 0 }
def p12_throwsIf_J9 (x1 : Int32) (M : mMem) : Option (Int32 × mMem) :=
  (bZ x1).bind fun z => some (z, M)
def p12_throwsIf (a0 : Nat) (x1 : Int32) (x2 : Int32) (M : mMem) : Option (Int32 × mMem) :=
  gd M a0 12 (
    if x1 = 0 then
      p12_throwsIf_J9 x1 M
    else
      (putI M a0 12 0 x2).bind fun M_1 =>
      p12_throwsIf_J9 x1 M_1)
abbrev rm12_in : Room := { frames := 0, cells := 0, slots := 0, locals := 0 }
def p12_in_J15 (M : mMem) (u0 : Int32) : Option Int32 :=
  (bZ u0).bind fun z => some z
def p12_in_J14 (M : mMem) : Option Int32 :=
  p12_in_J15 M 0
def p12_in (x0 : Int32) (x1 : Int32) (x2 : Int32) (M : mMem) : Option Int32 :=
  if x0 < x1 then
    p12_in_J14 M
  else
    if x2 < x0 then
      p12_in_J14 M
    else
      p12_in_J15 M 1
abbrev rm12_has : Room := { frames := 0, cells := 0, slots := 0, locals := 0 }
def p12_has_J14 (M : mMem) (u0 : Int32) : Option Int32 :=
  (bZ u0).bind fun z => some z
def p12_has (x0 : Int32) (x1 : Int32) (M : mMem) : Option Int32 :=
  if ((x0 >>> (x1 &&& 31)) &&& 1) = 1 then
    p12_has_J14 M 1
  else
    p12_has_J14 M 0
abbrev rm12_init : Room := { frames := 1, cells := 16, slots := 14041, locals := 32 }
def p12_init (a0 : Nat) (M : mMem) : Option mMem :=
  gd M a0 12 (
    (newC M 20 2143).bind fun n_1 =>
    (putR n_1.2 a0 12 1 n_1.1).bind fun M_2 =>
    (newC M_2 20 1294).bind fun n_3 =>
    (putR n_3.2 a0 12 2 n_3.1).bind fun M_4 =>
    (newC M_4 20 1294).bind fun n_5 =>
    (putR n_5.2 a0 12 3 n_5.1).bind fun M_6 =>
    (newC M_6 20 445).bind fun n_7 =>
    (putR n_7.2 a0 12 4 n_7.1).bind fun M_8 =>
    (newC M_8 20 5340).bind fun n_9 =>
    (putR n_9.2 a0 12 5 n_9.1).bind fun M_10 =>
    (newC M_10 21 400).bind fun n_11 =>
    (putR n_11.2 a0 12 8 n_11.1).bind fun M_12 =>
    (putI M_12 a0 12 14 (-1)).bind fun M_13 =>
    (newC M_13 20 5).bind fun n_14 =>
    (putR n_14.2 a0 12 15 n_14.1).bind fun M_15 =>
    (newC M_15 20 400).bind fun n_16 =>
    (putR n_16.2 a0 12 17 n_16.1).bind fun M_17 =>
    (newC M_17 20 99).bind fun n_18 =>
    (putR n_18.2 a0 12 18 n_18.1).bind fun M_19 =>
    (newC M_19 20 99).bind fun n_20 =>
    (putR n_20.2 a0 12 19 n_20.1).bind fun M_21 =>
    (newC M_21 20 99).bind fun n_22 =>
    (putR n_22.2 a0 12 20 n_22.1).bind fun M_23 =>
    (newC M_23 20 99).bind fun n_24 =>
    (putR n_24.2 a0 12 22 n_24.1).bind fun M_25 =>
    (newC M_25 20 2304).bind fun n_26 =>
    (putR n_26.2 a0 12 23 n_26.1).bind fun M_27 =>
    (newC M_27 20 8).bind fun n_28 =>
    (putR n_28.2 a0 12 24 n_28.1).bind fun M_29 =>
    (newC M_29 20 8).bind fun n_30 =>
    (putR n_30.2 a0 12 25 n_30.1).bind fun M_31 =>
    (newC M_31 22 4).bind fun n_32 =>
    (putR n_32.2 a0 12 26 n_32.1).bind fun M_33 =>
    (getR M_33 a0 12 1).bind fun v_34 =>
    (astI M_33 v_34 4 90).bind fun M_35 =>
    (getR M_35 a0 12 1).bind fun v_36 =>
    (astI M_35 v_36 5 5).bind fun M_37 =>
    (getR M_37 a0 12 1).bind fun v_38 =>
    (astI M_37 v_38 6 1).bind fun M_39 =>
    (getR M_39 a0 12 1).bind fun v_40 =>
    (astI M_39 v_40 8 1).bind fun M_41 =>
    some M_41)
abbrev rm12_image : Room := { frames := 0, cells := 0, slots := 0, locals := 0 }
def p12_image_L7 : Nat → Nat → Int32 → mMem → Option mMem
  | 0, _, _, _ => none
  | n + 1, a0, x1, M =>
    if x1 < 1294 then
      (getR M a0 12 2).bind fun v_2 =>
      (getR M a0 12 1).bind fun v_3 =>
      (aldI M v_3 20 x1).bind fun v_4 =>
      (astI M v_2 x1 v_4).bind fun M_5 =>
      (p12_image_L7 n) a0 (x1 + 1) M_5
    else
      (putI M a0 12 6 1).bind fun M_1 =>
      some M_1
def p12_image (a0 : Nat) (M : mMem) : Option mMem :=
  gd M a0 12 (
    (putI M a0 12 0 0).bind fun M_1 =>
    p12_image_L7 gF a0 0 M_1)
abbrev rm12_back : Room := { frames := 0, cells := 0, slots := 0, locals := 0 }
def p12_back_L16 : Nat → Nat → Int32 → mMem → Option (Int32 × mMem)
  | 0, _, _, _ => none
  | n + 1, a0, x1, M =>
    if x1 < 1294 then
      (getR M a0 12 1).bind fun v_2 =>
      (getR M a0 12 2).bind fun v_3 =>
      (aldI M v_3 20 x1).bind fun v_4 =>
      (astI M v_2 x1 v_4).bind fun M_5 =>
      (p12_back_L16 n) a0 (x1 + 1) M_5
    else
      (putI M a0 12 7 0).bind fun M_1 =>
      some (1, M_1)
def p12_back (a0 : Nat) (M : mMem) : Option (Int32 × mMem) :=
  gd M a0 12 (
    (putI M a0 12 0 0).bind fun M_1 =>
    (getI M_1 a0 12 6).bind fun v_2 =>
    if v_2 = 0 then
      some (0, M_1)
    else
      p12_back_L16 gF a0 0 M_1)
abbrev rm12_remembers : Room := { frames := 0, cells := 0, slots := 0, locals := 0 }
def p12_remembers_L55 : Nat → Nat → Int32 → mMem → Option mMem
  | 0, _, _, _ => none
  | n + 1, a0, x1, M =>
    if x1 < 445 then
      (getR M a0 12 5).bind fun v_1 =>
      (getI M a0 12 7).bind fun v_2 =>
      (getR M a0 12 1).bind fun v_3 =>
      (aldI M v_3 20 x1).bind fun v_4 =>
      (astI M v_1 (((445 : Int32) * (v_2 - 1)) + x1) v_4).bind fun M_5 =>
      (p12_remembers_L55 n) a0 (x1 + 1) M_5
    else
      some M
def p12_remembers_J53 (a0 : Nat) (M : mMem) : Option mMem :=
  p12_remembers_L55 gF a0 0 M
def p12_remembers_L11 (k40 : Nat → mMem → Option mMem) : Nat → Nat → Int32 → mMem → Option mMem
  | 0, _, _, _ => none
  | n + 1, a0, x1, M =>
    if x1 < 4895 then
      (getR M a0 12 5).bind fun v_1 =>
      (getR M a0 12 5).bind fun v_2 =>
      (aldI M v_2 20 (x1 + 445)).bind fun v_3 =>
      (astI M v_1 x1 v_3).bind fun M_4 =>
      (p12_remembers_L11 k40 n) a0 (x1 + 1) M_4
    else
      k40 a0 M
def p12_remembers_J40 (a0 : Nat) (M : mMem) : Option mMem :=
  p12_remembers_J53 a0 M
def p12_remembers (a0 : Nat) (M : mMem) : Option mMem :=
  gd M a0 12 (
    (getI M a0 12 7).bind fun v_1 =>
    if v_1 = 12 then
      p12_remembers_L11 p12_remembers_J40 gF a0 0 M
    else
      (getI M a0 12 7).bind fun v_2 =>
      (putI M a0 12 7 (v_2 + 1)).bind fun M_3 =>
      p12_remembers_J53 a0 M_3)
abbrev rm12_undo : Room := { frames := 0, cells := 0, slots := 0, locals := 0 }
def p12_undo_L26 : Nat → Nat → Int32 → mMem → Option (Int32 × mMem)
  | 0, _, _, _ => none
  | n + 1, a0, x1, M =>
    if x1 < 445 then
      (getR M a0 12 1).bind fun v_1 =>
      (getR M a0 12 5).bind fun v_2 =>
      (getI M a0 12 7).bind fun v_3 =>
      (aldI M v_2 20 (((445 : Int32) * v_3) + x1)).bind fun v_4 =>
      (astI M v_1 x1 v_4).bind fun M_5 =>
      (p12_undo_L26 n) a0 (x1 + 1) M_5
    else
      some (1, M)
def p12_undo (a0 : Nat) (M : mMem) : Option (Int32 × mMem) :=
  gd M a0 12 (
    (putI M a0 12 0 0).bind fun M_1 =>
    (getI M_1 a0 12 7).bind fun v_2 =>
    if v_2 = 0 then
      some (0, M_1)
    else
      (getI M_1 a0 12 7).bind fun v_3 =>
      (putI M_1 a0 12 7 (v_3 - 1)).bind fun M_4 =>
      p12_undo_L26 gF a0 0 M_4)
abbrev rm12_people : Room := { frames := 0, cells := 0, slots := 0, locals := 0 }
def p12_people (a0 : Nat) (M : mMem) : Option Int32 :=
  gd M a0 12 (
    (getR M a0 12 1).bind fun v_1 =>
    (aldI M v_1 20 0).bind fun v_2 =>
    some v_2)
abbrev rm12_at : Room := { frames := 0, cells := 0, slots := 0, locals := 0 }
def p12_at (x0 : Int32) (x1 : Int32) (M : mMem) : Option Int32 :=
  some (((9 : Int32) + ((17 : Int32) * x0)) + x1)
abbrev rm12_of : Room := { frames := 1, cells := 0, slots := 0, locals := 21 }
def p12_of (a0 : Nat) (x1 : Int32) (x2 : Int32) (M : mMem) : Option Int32 :=
  gd M a0 12 (
    (getR M a0 12 1).bind fun v_1 =>
    (p12_at x1 x2 M).bind fun v_2 =>
    (aldI M v_1 20 v_2).bind fun v_3 =>
    some v_3)
abbrev rm12_nobody : Room := { frames := 1, cells := 0, slots := 0, locals := 22 }
def p12_nobody_J19 (M : mMem) (u0 : Int32) : Option Int32 :=
  (bZ u0).bind fun z => some z
def p12_nobody (a0 : Nat) (x1 : Int32) (M : mMem) : Option Int32 :=
  gd M a0 12 (
    (p12_people a0 M).bind fun v_1 =>
    (p12_in x1 0 (v_1 - 1) M).bind fun v_2 =>
    if v_2 = 0 then
      p12_nobody_J19 M 1
    else
      p12_nobody_J19 M 0)
abbrev rm12_governs : Room := { frames := 2, cells := 0, slots := 0, locals := 43 }
def p12_governs (a0 : Nat) (x1 : Int32) (x2 : Int32) (M : mMem) : Option Int32 :=
  gd M a0 12 (
    (p12_of a0 x2 8 M).bind fun v_1 =>
    (p12_has v_1 x1 M).bind fun v_2 =>
    (bZ v_2).bind fun z => some z)
abbrev rm12_isParent : Room := { frames := 2, cells := 0, slots := 0, locals := 43 }
def p12_isParent_J15 (M : mMem) (u0 : Int32) : Option Int32 :=
  (bZ u0).bind fun z => some z
def p12_isParent (a0 : Nat) (x1 : Int32) (x2 : Int32) (M : mMem) : Option Int32 :=
  gd M a0 12 (
    (p12_of a0 x2 3 M).bind fun v_1 =>
    if v_1 = x1 then
      p12_isParent_J15 M 1
    else
      p12_isParent_J15 M 0)
abbrev rm12_areClose : Room := { frames := 3, cells := 0, slots := 0, locals := 65 }
def p12_areClose_J23 (M : mMem) (u0 : Int32) : Option Int32 :=
  (bZ u0).bind fun z => some z
def p12_areClose_J18 (M : mMem) : Option Int32 :=
  p12_areClose_J23 M 1
def p12_areClose (a0 : Nat) (x1 : Int32) (x2 : Int32) (M : mMem) : Option Int32 :=
  gd M a0 12 (
    (p12_isParent a0 x1 x2 M).bind fun v_1 =>
    if v_1 = 0 then
      (p12_isParent a0 x2 x1 M).bind fun v_2 =>
      if v_2 = 0 then
        p12_areClose_J23 M 0
      else
        p12_areClose_J18 M
    else
      p12_areClose_J18 M)
abbrev rm12_isBoy : Room := { frames := 2, cells := 0, slots := 0, locals := 43 }
def p12_isBoy_J14 (M : mMem) (u0 : Int32) : Option Int32 :=
  (bZ u0).bind fun z => some z
def p12_isBoy (a0 : Nat) (x1 : Int32) (M : mMem) : Option Int32 :=
  gd M a0 12 (
    (p12_of a0 x1 2 M).bind fun v_1 =>
    if v_1 = 0 then
      p12_isBoy_J14 M 1
    else
      p12_isBoy_J14 M 0)
abbrev rm12_isSingle : Room := { frames := 2, cells := 0, slots := 0, locals := 43 }
def p12_isSingle_J15 (M : mMem) (u0 : Int32) : Option Int32 :=
  (bZ u0).bind fun z => some z
def p12_isSingle (a0 : Nat) (x1 : Int32) (M : mMem) : Option Int32 :=
  gd M a0 12 (
    (p12_of a0 x1 4 M).bind fun v_1 =>
    if v_1 = (-1) then
      p12_isSingle_J15 M 1
    else
      p12_isSingle_J15 M 0)
abbrev rm12_drawn : Room := { frames := 0, cells := 0, slots := 0, locals := 0 }
def p12_drawn (a0 : Nat) (x1 : Int32) (M : mMem) : Option (Int32 × mMem) :=
  gd M a0 12 (
    (getR M a0 12 1).bind fun v_1 =>
    (getR M a0 12 1).bind fun v_2 =>
    (aldI M v_2 20 8).bind fun v_3 =>
    (astI M v_1 8 (((1103515245 : Int32) * v_3) + 12345)).bind fun M_4 =>
    (getR M_4 a0 12 1).bind fun v_5 =>
    (aldI M_4 v_5 20 8).bind fun v_6 =>
    (remI ((v_6 >>> (16 &&& 31)) &&& 32767) x1).bind fun v_7 =>
    some (v_7, M_4))
abbrev rm12_feed : Room := { frames := 0, cells := 0, slots := 0, locals := 0 }
def p12_feed_L60 : Nat → Nat → Int32 → mMem → Option (Int32 × mMem)
  | 0, _, _, _ => none
  | n + 1, a0, x6, M =>
    if x6 < 20 then
      (getR M a0 12 8).bind fun v_4 =>
      (getI M a0 12 9).bind fun v_5 =>
      (getR M a0 12 15).bind fun v_6 =>
      (divI x6 4).bind fun v_7 =>
      (aldI M v_6 20 v_7).bind fun v_8 =>
      (remI x6 4).bind fun v_9 =>
      (astB M v_4 (v_5 + x6) (i2b (v_8 >>> (((24 : Int32) - ((8 : Int32) * v_9)) &&& 31)))).bind fun M_10 =>
      (p12_feed_L60 n) a0 (x6 + 1) M_10
    else
      (getI M a0 12 9).bind fun v_1 =>
      (putI M a0 12 9 (v_1 + 20)).bind fun M_2 =>
      (getI M_2 a0 12 9).bind fun v_3 =>
      some (v_3, M_2)
def p12_feed (a0 : Nat) (x1 : Int32) (x2 : Int32) (x3 : Int32) (x4 : Int32) (x5 : Int32) (M : mMem) : Option (Int32 × mMem) :=
  gd M a0 12 (
    (putI M a0 12 0 0).bind fun M_1 =>
    (getI M_1 a0 12 9).bind fun v_2 =>
    if 400 < (v_2 + 20) then
      some ((-1), M_1)
    else
      (getR M_1 a0 12 15).bind fun v_3 =>
      (astI M_1 v_3 0 x1).bind fun M_4 =>
      (getR M_4 a0 12 15).bind fun v_5 =>
      (astI M_4 v_5 1 x2).bind fun M_6 =>
      (getR M_6 a0 12 15).bind fun v_7 =>
      (astI M_6 v_7 2 x3).bind fun M_8 =>
      (getR M_8 a0 12 15).bind fun v_9 =>
      (astI M_8 v_9 3 x4).bind fun M_10 =>
      (getR M_10 a0 12 15).bind fun v_11 =>
      (astI M_10 v_11 4 x5).bind fun M_12 =>
      p12_feed_L60 gF a0 0 M_12)
abbrev rm12_end : Room := { frames := 0, cells := 0, slots := 0, locals := 0 }
def p12_end_J17 (M : mMem) : Option (Int32 × mMem) :=
  some (0, M)
def p12_end (a0 : Nat) (x1 : Int32) (M : mMem) : Option (Int32 × mMem) :=
  gd M a0 12 (
    (putI M a0 12 0 0).bind fun M_1 =>
    if x1 < 0 then
      p12_end_J17 M_1
    else
      (getI M_1 a0 12 9).bind fun v_2 =>
      if v_2 < x1 then
        p12_end_J17 M_1
      else
        (putI M_1 a0 12 9 x1).bind fun M_3 =>
        some (1, M_3))
abbrev rm12_isAt : Room := { frames := 0, cells := 0, slots := 0, locals := 0 }
def p12_isAt_J42 (M : mMem) (u0 : Int32) : Option Int32 :=
  (bZ u0).bind fun z => some z
def p12_isAt_J41 (M : mMem) : Option Int32 :=
  p12_isAt_J42 M 0
def p12_isAt (a0 : Nat) (x1 : Int32) (x2 : Int32) (M : mMem) : Option Int32 :=
  gd M a0 12 (
    (getI M a0 12 10).bind fun v_1 =>
    (getI M a0 12 11).bind fun v_2 =>
    if v_1 < v_2 then
      (getR M a0 12 8).bind fun v_3 =>
      (getI M a0 12 10).bind fun v_4 =>
      (aldI M v_3 21 v_4).bind fun v_5 =>
      if v_5 < x1 then
        p12_isAt_J41 M
      else
        (getR M a0 12 8).bind fun v_6 =>
        (getI M a0 12 10).bind fun v_7 =>
        (aldI M v_6 21 v_7).bind fun v_8 =>
        if x2 < v_8 then
          p12_isAt_J41 M
        else
          p12_isAt_J42 M 1
    else
      p12_isAt_J41 M)
abbrev rm12_blanks : Room := { frames := 1, cells := 0, slots := 0, locals := 22 }
def p12_blanks_L0 : Nat → Nat → mMem → Option mMem
  | 0, _, _ => none
  | n + 1, a0, M =>
    (p12_isAt a0 32 32 M).bind fun v_1 =>
    if v_1 = 0 then
      (getI M a0 12 10).bind fun v_2 =>
      (putI M a0 12 12 v_2).bind fun M_3 =>
      some M_3
    else
      (getI M a0 12 10).bind fun v_4 =>
      (putI M a0 12 10 (v_4 + 1)).bind fun M_5 =>
      (p12_blanks_L0 n) a0 M_5
def p12_blanks (a0 : Nat) (M : mMem) : Option mMem :=
  gd M a0 12 (
    p12_blanks_L0 gF a0 M)
abbrev rm12_letters : Room := { frames := 2, cells := 0, slots := 0, locals := 42 }
def p12_letters_L4 : Nat → Nat → mMem → Option mMem
  | 0, _, _ => none
  | n + 1, a0, M =>
    (p12_isAt a0 97 122 M).bind fun v_1 =>
    if v_1 = 0 then
      some M
    else
      (getI M a0 12 10).bind fun v_2 =>
      (putI M a0 12 10 (v_2 + 1)).bind fun M_3 =>
      (p12_letters_L4 n) a0 M_3
def p12_letters (a0 : Nat) (M : mMem) : Option mMem :=
  gd M a0 12 (
    (p12_blanks a0 M).bind fun q_1 =>
    p12_letters_L4 gF a0 q_1)
abbrev rm12_isWord : Room := { frames := 6, cells := 0, slots := 0, locals := 240 }
def p12_isWord_J67 (M : mMem) (x2 : Int32) : Option Int32 :=
  (bZ x2).bind fun z => some z
def p12_isWord_J60 (M : mMem) (rec24 : Nat → Nat → Int32 → Int32 → Option Int32) (a0 : Nat) (s1 : Nat) (x3 : Int32) (u0 : Int32) : Option Int32 :=
  rec24 a0 s1 u0 (x3 + 1)
def p12_isWord_L24 (M : mMem) : Nat → Nat → Nat → Int32 → Int32 → Option Int32
  | 0, _, _, _, _ => none
  | n + 1, a0, s1, x2, x3 =>
    if x2 = 0 then
      p12_isWord_J67 M x2
    else
      (sLen s1).bind fun v_1 =>
      if x3 < v_1 then
        (getR M a0 12 8).bind fun v_2 =>
        (getI M a0 12 12).bind fun v_3 =>
        (aldI M v_2 21 (v_3 + x3)).bind fun v_4 =>
        (sAt s1 x3).bind fun v_5 =>
        if v_4 = v_5 then
          p12_isWord_J60 M (p12_isWord_L24 M n) a0 s1 x3 1
        else
          p12_isWord_J60 M (p12_isWord_L24 M n) a0 s1 x3 0
      else
        p12_isWord_J67 M x2
def p12_isWord_J21 (M : mMem) (a0 : Nat) (s1 : Nat) (u0 : Int32) : Option Int32 :=
  p12_isWord_L24 M gF a0 s1 u0 0
def p12_isWord (a0 : Nat) (s1 : Nat) (M : mMem) : Option Int32 :=
  gd M a0 12 (
    (getI M a0 12 10).bind fun v_1 =>
    (getI M a0 12 12).bind fun v_2 =>
    (sLen s1).bind fun v_3 =>
    if (v_1 - v_2) = v_3 then
      p12_isWord_J21 M a0 s1 1
    else
      p12_isWord_J21 M a0 s1 0)
abbrev rm12_passes : Room := { frames := 7, cells := 0, slots := 0, locals := 263 }
def p12_passes (a0 : Nat) (s1 : Nat) (M : mMem) : Option (Int32 × mMem) :=
  gd M a0 12 (
    (p12_letters a0 M).bind fun q_1 =>
    (p12_isWord a0 s1 q_1).bind fun v_2 =>
    if v_2 = 0 then
      (getI q_1 a0 12 12).bind fun v_3 =>
      (putI q_1 a0 12 10 v_3).bind fun M_4 =>
      some (0, M_4)
    else
      some (1, q_1))
abbrev rm12_sign : Room := { frames := 2, cells := 0, slots := 0, locals := 42 }
def p12_sign (a0 : Nat) (x1 : Int32) (M : mMem) : Option (Int32 × mMem) :=
  gd M a0 12 (
    (p12_blanks a0 M).bind fun q_1 =>
    (p12_isAt a0 x1 x1 q_1).bind fun v_2 =>
    if v_2 = 0 then
      some (0, q_1)
    else
      (getI q_1 a0 12 10).bind fun v_3 =>
      (putI q_1 a0 12 10 (v_3 + 1)).bind fun M_4 =>
      some (1, M_4))
abbrev rm12_number : Room := { frames := 2, cells := 0, slots := 0, locals := 42 }
def p12_number_J51 (rec6 : Nat → Int32 → Int32 → Int32 → mMem → Option (Int32 × mMem)) (a0 : Nat) (x1 : Int32) (x2 : Int32) (u0 : Int32) (M : mMem) : Option (Int32 × mMem) :=
  (getI M a0 12 10).bind fun v_1 =>
  (putI M a0 12 10 (v_1 + 1)).bind fun M_2 =>
  rec6 a0 x1 x2 u0 M_2
def p12_number_L6 (k65 : Nat → Int32 → Int32 → Int32 → mMem → Option (Int32 × mMem)) : Nat → Nat → Int32 → Int32 → Int32 → mMem → Option (Int32 × mMem)
  | 0, _, _, _, _, _ => none
  | n + 1, a0, x1, x2, x3, M =>
    (p12_isAt a0 48 57 M).bind fun v_1 =>
    if v_1 = 0 then
      k65 a0 x1 x2 x3 M
    else
      (getI M a0 12 10).bind fun v_2 =>
      (getI M a0 12 12).bind fun v_3 =>
      if (v_2 - v_3) < 3 then
        (getR M a0 12 8).bind fun v_4 =>
        (getI M a0 12 10).bind fun v_5 =>
        (aldI M v_4 21 v_5).bind fun v_6 =>
        p12_number_J51 (p12_number_L6 k65 n) a0 x1 x2 ((((10 : Int32) * x3) + v_6) - 48) M
      else
        p12_number_J51 (p12_number_L6 k65 n) a0 x1 x2 x3 M
def p12_number_J104 (u0 : Int32) (M : mMem) : Option (Int32 × mMem) :=
  some (u0, M)
def p12_number_J99 (M : mMem) : Option (Int32 × mMem) :=
  p12_number_J104 (-1) M
def p12_number_J65 (a0 : Nat) (x1 : Int32) (x2 : Int32) (x3 : Int32) (M : mMem) : Option (Int32 × mMem) :=
  (getI M a0 12 10).bind fun v_1 =>
  (getI M a0 12 12).bind fun v_2 =>
  if v_1 = v_2 then
    p12_number_J99 M
  else
    (getI M a0 12 10).bind fun v_3 =>
    (getI M a0 12 12).bind fun v_4 =>
    if 3 < (v_3 - v_4) then
      p12_number_J99 M
    else
      if x3 < x1 then
        p12_number_J99 M
      else
        if x2 < x3 then
          p12_number_J99 M
        else
          p12_number_J104 x3 M
def p12_number (a0 : Nat) (x1 : Int32) (x2 : Int32) (M : mMem) : Option (Int32 × mMem) :=
  gd M a0 12 (
    (p12_blanks a0 M).bind fun q_1 =>
    p12_number_L6 p12_number_J65 gF a0 x1 x2 0 q_1)
abbrev rm12_after : Room := { frames := 7, cells := 0, slots := 0, locals := 263 }
def p12_after_J22 (u0 : Int32) (M : mMem) : Option (Int32 × mMem) :=
  some (u0, M)
def p12_after (a0 : Nat) (s1 : Nat) (x2 : Int32) (x3 : Int32) (M : mMem) : Option (Int32 × mMem) :=
  gd M a0 12 (
    (p12_letters a0 M).bind fun q_1 =>
    (p12_isWord a0 s1 q_1).bind fun v_2 =>
    if v_2 = 0 then
      p12_after_J22 (-1) q_1
    else
      (p12_number a0 x2 x3 q_1).bind fun q_3 =>
      p12_after_J22 q_3.1 q_3.2)
abbrev rm12_fault : Room := { frames := 0, cells := 0, slots := 0, locals := 0 }
def p12_fault (a0 : Nat) (M : mMem) : Option (Int32 × mMem) :=
  gd M a0 12 (
    (putI M a0 12 0 0).bind fun M_1 =>
    (getI M_1 a0 12 14).bind fun v_2 =>
    some (v_2, M_1))
abbrev rm12_uses : Room := { frames := 0, cells := 0, slots := 0, locals := 0 }
def p12_uses (a0 : Nat) (M : mMem) : Option mMem :=
  gd M a0 12 (
    (putI M a0 12 0 0).bind fun M_1 =>
    (getI M_1 a0 12 9).bind fun v_2 =>
    (putI M_1 a0 12 11 v_2).bind fun M_3 =>
    (putI M_3 a0 12 9 0).bind fun M_4 =>
    (putI M_4 a0 12 10 0).bind fun M_5 =>
    some M_5)
