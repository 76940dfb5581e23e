abbrev rm12_owes : Room := { frames := 3, cells := 0, slots := 0, locals := 65 }
def p12_owes_J36 (u0 : Int32) (M : mMem) : Option (Int32 × mMem) :=
  some (u0, M)
def p12_owes (a0 : Nat) (x1 : Int32) (x2 : Int32) (M : mMem) : Option (Int32 × mMem) :=
  gd M a0 12 (
    (p12_noTwo a0 x1 x2 M).bind fun q_1 =>
    if q_1.1 = 0 then
      (p12_of a0 x2 ((9 : Int32) + x1) q_1.2).bind fun v_2 =>
      (p12_of a0 x1 ((9 : Int32) + x2) q_1.2).bind fun v_3 =>
      p12_owes_J36 (maxI 0 (v_2 - v_3)) q_1.2
    else
      p12_owes_J36 0 q_1.2)
abbrev rm12_net : Room := { frames := 2, cells := 0, slots := 0, locals := 43 }
def p12_net_L22 (k61 : Nat → Int32 → Int32 → Int32 → mMem → Option (Int32 × mMem)) : Nat → Nat → Int32 → Int32 → Int32 → Int32 → mMem → Option (Int32 × mMem)
  | 0, _, _, _, _, _, _ => none
  | n + 1, a0, x1, x2, x3, x4, M =>
    (p12_people a0 M).bind fun v_1 =>
    if x4 < v_1 then
      (p12_of a0 x2 ((9 : Int32) + x4) M).bind fun v_2 =>
      (p12_of a0 x4 ((9 : Int32) + x2) M).bind fun v_3 =>
      (p12_net_L22 k61 n) a0 x1 x2 (x3 + (v_2 - v_3)) (x4 + 1) M
    else
      k61 a0 x1 x2 x3 M
def p12_net_J61 (rec9 : Nat → Int32 → Int32 → mMem → Option (Int32 × mMem)) (a0 : Nat) (x1 : Int32) (x2 : Int32) (x3 : Int32) (M : mMem) : Option (Int32 × mMem) :=
  rec9 a0 (x1 + (maxI 0 x3)) (x2 + 1) M
def p12_net_L9 : Nat → Nat → Int32 → Int32 → mMem → Option (Int32 × mMem)
  | 0, _, _, _, _ => none
  | n + 1, a0, x1, x2, M =>
    (p12_people a0 M).bind fun v_1 =>
    if x2 < v_1 then
      p12_net_L22 (p12_net_J61 (p12_net_L9 n)) gF a0 x1 x2 0 0 M
    else
      some (x1, M)
def p12_net (a0 : Nat) (M : mMem) : Option (Int32 × mMem) :=
  gd M a0 12 (
    (putI M a0 12 0 0).bind fun M_1 =>
    p12_net_L9 gF a0 0 0 M_1)
abbrev rm12_lentBy : Room := { frames := 2, cells := 0, slots := 0, locals := 43 }
def p12_lentBy_J54 (M : mMem) (rec15 : Nat → Int32 → Int32 → Int32 → Int32 → Option Int32) (a0 : Nat) (x1 : Int32) (x3 : Int32) (x4 : Int32) (u0 : Int32) (u1 : Int32) : Option Int32 :=
  rec15 a0 x1 (u0 ||| u1) x3 (x4 + 1)
def p12_lentBy_J53 (M : mMem) (rec15 : Nat → Int32 → Int32 → Int32 → Int32 → Option Int32) (a0 : Nat) (x1 : Int32) (x3 : Int32) (x4 : Int32) (u0 : Int32) : Option Int32 :=
  p12_lentBy_J54 M rec15 a0 x1 x3 x4 u0 0
def p12_lentBy_L15 (M : mMem) (k62 : Nat → Int32 → Int32 → Int32 → Option Int32) : Nat → Nat → Int32 → Int32 → Int32 → Int32 → Option Int32
  | 0, _, _, _, _, _ => none
  | n + 1, a0, x1, x2, x3, x4 =>
    (p12_people a0 M).bind fun v_1 =>
    if x4 < v_1 then
      (p12_has x1 x3 M).bind fun v_2 =>
      if v_2 = 0 then
        p12_lentBy_J53 M (p12_lentBy_L15 M k62 n) a0 x1 x3 x4 x2
      else
        (p12_of a0 x3 ((9 : Int32) + x4) M).bind fun v_3 =>
        if 0 < v_3 then
          p12_lentBy_J54 M (p12_lentBy_L15 M k62 n) a0 x1 x3 x4 x2 ((1 : Int32) <<< (x4 &&& 31))
        else
          p12_lentBy_J53 M (p12_lentBy_L15 M k62 n) a0 x1 x3 x4 x2
    else
      k62 a0 x1 x2 x3
def p12_lentBy_J62 (M : mMem) (rec4 : Nat → Int32 → Int32 → Int32 → Option Int32) (a0 : Nat) (x1 : Int32) (x2 : Int32) (x3 : Int32) : Option Int32 :=
  rec4 a0 x1 x2 (x3 + 1)
def p12_lentBy_L4 (M : mMem) : Nat → Nat → Int32 → Int32 → Int32 → Option Int32
  | 0, _, _, _, _ => none
  | n + 1, a0, x1, x2, x3 =>
    (p12_people a0 M).bind fun v_1 =>
    if x3 < v_1 then
      p12_lentBy_L15 M (p12_lentBy_J62 M (p12_lentBy_L4 M n)) gF a0 x1 x2 x3 0
    else
      some x2
def p12_lentBy (a0 : Nat) (x1 : Int32) (M : mMem) : Option Int32 :=
  gd M a0 12 (
    p12_lentBy_L4 M gF a0 x1 0 0)
abbrev rm12_ring : Room := { frames := 3, cells := 0, slots := 0, locals := 67 }
def p12_ring_L30 : Nat → Nat → Int32 → Int32 → Int32 → mMem → Option (Int32 × mMem)
  | 0, _, _, _, _, _ => none
  | n + 1, a0, x1, x2, x3, M =>
    if x3 < 8 then
      (p12_lentBy a0 x2 M).bind fun v_2 =>
      (p12_ring_L30 n) a0 x1 (x2 ||| v_2) (x3 + 1) M
    else
      (p12_has x2 x1 M).bind fun v_1 =>
      (bZ v_1).bind fun z => some (z, M)
def p12_ring (a0 : Nat) (x1 : Int32) (M : mMem) : Option (Int32 × mMem) :=
  gd M a0 12 (
    (putI M a0 12 0 0).bind fun M_1 =>
    (p12_nobody a0 x1 M_1).bind fun v_2 =>
    (p12_throwsIf a0 v_2 1 M_1).bind fun q_3 =>
    if q_3.1 = 0 then
      (p12_lentBy a0 ((1 : Int32) <<< (x1 &&& 31)) q_3.2).bind fun v_4 =>
      p12_ring_L30 gF a0 x1 v_4 0 q_3.2
    else
      some (0, q_3.2))
abbrev rm12_rich : Room := { frames := 2, cells := 0, slots := 0, locals := 43 }
def p12_rich_J41 (rec9 : Nat → Int32 → Int32 → mMem → Option (Int32 × mMem)) (a0 : Nat) (x1 : Int32) (x2 : Int32) (M : mMem) : Option (Int32 × mMem) :=
  rec9 a0 x1 (x2 + 1) M
def p12_rich_J39 (rec9 : Nat → Int32 → Int32 → mMem → Option (Int32 × mMem)) (a0 : Nat) (x2 : Int32) (M : mMem) : Option (Int32 × mMem) :=
  p12_rich_J41 rec9 a0 x2 x2 M
def p12_rich_L9 : Nat → Nat → Int32 → Int32 → mMem → Option (Int32 × mMem)
  | 0, _, _, _, _ => none
  | n + 1, a0, x1, x2, M =>
    (p12_people a0 M).bind fun v_1 =>
    if x2 < v_1 then
      if x1 = (-1) then
        p12_rich_J39 (p12_rich_L9 n) a0 x2 M
      else
        (p12_of a0 x2 7 M).bind fun v_2 =>
        (p12_of a0 x1 7 M).bind fun v_3 =>
        if v_3 < v_2 then
          p12_rich_J39 (p12_rich_L9 n) a0 x2 M
        else
          p12_rich_J41 (p12_rich_L9 n) a0 x1 x2 M
    else
      some (x1, M)
def p12_rich (a0 : Nat) (M : mMem) : Option (Int32 × mMem) :=
  gd M a0 12 (
    (putI M a0 12 0 0).bind fun M_1 =>
    p12_rich_L9 gF a0 (-1) 0 M_1)
abbrev rm12_elderHas : Room := { frames := 2, cells := 0, slots := 0, locals := 43 }
def p12_elderHas_J26 (M : mMem) (u0 : Int32) : Option Int32 :=
  some u0
def p12_elderHas (a0 : Nat) (x1 : Int32) (x2 : Int32) (x3 : Int32) (M : mMem) : Option Int32 :=
  gd M a0 12 (
    if x3 = 1 then
      some x2
    else
      if x2 = 1 then
        p12_elderHas_J26 M (-1)
      else
        (p12_of a0 x1 6 M).bind fun v_1 =>
        (divI v_1 10).bind fun v_2 =>
        p12_elderHas_J26 M v_2)
abbrev rm12_childHas : Room := { frames := 7, cells := 0, slots := 0, locals := 167 }
def p12_childHas_J31 (u0 : Int32) (M : mMem) : Option (Int32 × mMem) :=
  some (u0, M)
def p12_childHas (a0 : Nat) (x1 : Int32) (x2 : Int32) (x3 : Int32) (x4 : Int32) (M : mMem) : Option (Int32 × mMem) :=
  gd M a0 12 (
    if x4 = 1 then
      some (0, M)
    else
      if x3 = 1 then
        (p12_weighsOf a0 x1 x2 1 M).bind fun q_2 =>
        p12_childHas_J31 q_2.1 q_2.2
      else
        (p12_weighsOf a0 x1 x2 0 M).bind fun q_1 =>
        p12_childHas_J31 (-q_1.1) q_1.2)
abbrev rm12_rests : Room := { frames := 8, cells := 0, slots := 0, locals := 191 }
def p12_rests_J31 (M : mMem) : Option (Int32 × mMem) :=
  some (0, M)
def p12_rests_J127 (rec47 : Nat → Int32 → Int32 → Int32 → Int32 → Int32 → mMem → Option (Int32 × mMem)) (a0 : Nat) (x1 : Int32) (x2 : Int32) (x4 : Int32) (x5 : Int32) (u0 : Int32) (u1 : Int32) (M : mMem) : Option (Int32 × mMem) :=
  rec47 a0 x1 x2 (u0 ||| u1) x4 (x5 + 1) M
def p12_rests_J106 (rec47 : Nat → Int32 → Int32 → Int32 → Int32 → Int32 → mMem → Option (Int32 × mMem)) (a0 : Nat) (x1 : Int32) (x2 : Int32) (x3 : Int32) (x4 : Int32) (x5 : Int32) (u0 : Int32) (M : mMem) : Option (Int32 × mMem) :=
  if u0 = 0 then
    p12_rests_J127 rec47 a0 x1 x2 x4 x5 x3 0 M
  else
    p12_rests_J127 rec47 a0 x1 x2 x4 x5 x3 ((1 : Int32) <<< ((((2 : Int32) * x4) + x5) &&& 31)) M
def p12_rests_J105 (rec47 : Nat → Int32 → Int32 → Int32 → Int32 → Int32 → mMem → Option (Int32 × mMem)) (a0 : Nat) (x1 : Int32) (x2 : Int32) (x3 : Int32) (x4 : Int32) (x5 : Int32) (M : mMem) : Option (Int32 × mMem) :=
  p12_rests_J106 rec47 a0 x1 x2 x3 x4 x5 0 M
def p12_rests_L47 (k135 : Nat → Int32 → Int32 → Int32 → Int32 → mMem → Option (Int32 × mMem)) : Nat → Nat → Int32 → Int32 → Int32 → Int32 → Int32 → mMem → Option (Int32 × mMem)
  | 0, _, _, _, _, _, _, _ => none
  | n + 1, a0, x1, x2, x3, x4, x5, M =>
    if x5 < 2 then
      (p12_elderHas a0 x1 x4 x5 M).bind fun v_1 =>
      (p12_elderHas a0 x1 ((1 : Int32) - x4) x5 M).bind fun v_2 =>
      if v_1 < v_2 then
        p12_rests_J105 (p12_rests_L47 k135 n) a0 x1 x2 x3 x4 x5 M
      else
        (p12_childHas a0 x1 x2 x4 x5 M).bind fun q_3 =>
        (p12_childHas a0 x1 x2 x4 ((1 : Int32) - x5) q_3.2).bind fun q_4 =>
        if q_3.1 < q_4.1 then
          p12_rests_J105 (p12_rests_L47 k135 n) a0 x1 x2 x3 x4 x5 q_4.2
        else
          p12_rests_J106 (p12_rests_L47 k135 n) a0 x1 x2 x3 x4 x5 1 q_4.2
    else
      k135 a0 x1 x2 x3 x4 M
def p12_rests_J135 (rec38 : Nat → Int32 → Int32 → Int32 → Int32 → mMem → Option (Int32 × mMem)) (a0 : Nat) (x1 : Int32) (x2 : Int32) (x3 : Int32) (x4 : Int32) (M : mMem) : Option (Int32 × mMem) :=
  rec38 a0 x1 x2 x3 (x4 + 1) M
def p12_rests_L38 : Nat → Nat → Int32 → Int32 → Int32 → Int32 → mMem → Option (Int32 × mMem)
  | 0, _, _, _, _, _, _ => none
  | n + 1, a0, x1, x2, x3, x4, M =>
    if x4 < 2 then
      p12_rests_L47 (p12_rests_J135 (p12_rests_L38 n)) gF a0 x1 x2 x3 x4 0 M
    else
      some (x3, M)
def p12_rests_J24 (a0 : Nat) (x1 : Int32) (x2 : Int32) (b0 : Nat) (u1 : Int32) (M : mMem) : Option (Int32 × mMem) :=
  (p12_throwsIf b0 u1 3 M).bind fun q_1 =>
  if q_1.1 = 0 then
    p12_rests_L38 gF a0 x1 x2 0 0 q_1.2
  else
    p12_rests_J31 q_1.2
def p12_rests (a0 : Nat) (x1 : Int32) (x2 : Int32) (M : mMem) : Option (Int32 × mMem) :=
  gd M a0 12 (
    (p12_noTwo a0 x1 x2 M).bind fun q_1 =>
    if q_1.1 = 0 then
      (p12_governs a0 x1 x2 q_1.2).bind fun v_2 =>
      if v_2 = 0 then
        p12_rests_J24 a0 x1 x2 a0 1 q_1.2
      else
        p12_rests_J24 a0 x1 x2 a0 0 q_1.2
    else
      p12_rests_J31 q_1.2)
abbrev rm12_branchOf : Room := { frames := 2, cells := 0, slots := 0, locals := 43 }
def p12_branchOf_J43 (M : mMem) (rec6 : Nat → Int32 → Int32 → Option Int32) (a0 : Nat) (x2 : Int32) (x3 : Int32) : Option Int32 :=
  rec6 a0 x2 (x3 + 1)
def p12_branchOf_L6 (M : mMem) : Nat → Nat → Int32 → Int32 → Option Int32
  | 0, _, _, _ => none
  | n + 1, a0, x2, x3 =>
    (p12_people a0 M).bind fun v_1 =>
    if x3 < v_1 then
      (p12_of a0 x3 3 M).bind fun v_2 =>
      if v_2 = (-1) then
        p12_branchOf_J43 M (p12_branchOf_L6 M n) a0 x2 x3
      else
        (p12_of a0 x3 3 M).bind fun v_3 =>
        (p12_has x2 v_3 M).bind fun v_4 =>
        if v_4 = 0 then
          p12_branchOf_J43 M (p12_branchOf_L6 M n) a0 x2 x3
        else
          p12_branchOf_J43 M (p12_branchOf_L6 M n) a0 (x2 ||| ((1 : Int32) <<< (x3 &&& 31))) x3
    else
      some x2
def p12_branchOf (a0 : Nat) (x1 : Int32) (M : mMem) : Option Int32 :=
  gd M a0 12 (
    p12_branchOf_L6 M gF a0 ((1 : Int32) <<< (x1 &&& 31)) 0)
abbrev rm12_branch : Room := { frames := 3, cells := 0, slots := 0, locals := 66 }
def p12_branch_J27 (u0 : Int32) (M : mMem) : Option (Int32 × mMem) :=
  some (u0, M)
def p12_branch (a0 : Nat) (x1 : Int32) (M : mMem) : Option (Int32 × mMem) :=
  gd M a0 12 (
    (putI M a0 12 0 0).bind fun M_1 =>
    (p12_nobody a0 x1 M_1).bind fun v_2 =>
    (p12_throwsIf a0 v_2 1 M_1).bind fun q_3 =>
    if q_3.1 = 0 then
      (p12_branchOf a0 x1 q_3.2).bind fun v_4 =>
      p12_branch_J27 v_4 q_3.2
    else
      p12_branch_J27 0 q_3.2)
abbrev rm12_agesOf : Room := { frames := 2, cells := 0, slots := 0, locals := 43 }
def p12_agesOf_J31 (M : mMem) (rec4 : Nat → Int32 → Int32 → Int32 → Option Int32) (a0 : Nat) (x1 : Int32) (x3 : Int32) (u0 : Int32) (u1 : Int32) : Option Int32 :=
  rec4 a0 x1 (u0 + u1) (x3 + 1)
def p12_agesOf_L4 (M : mMem) : Nat → Nat → Int32 → Int32 → Int32 → Option Int32
  | 0, _, _, _, _ => none
  | n + 1, a0, x1, x2, x3 =>
    (p12_people a0 M).bind fun v_1 =>
    if x3 < v_1 then
      (p12_has x1 x3 M).bind fun v_2 =>
      if v_2 = 0 then
        p12_agesOf_J31 M (p12_agesOf_L4 M n) a0 x1 x3 x2 0
      else
        (p12_of a0 x3 0 M).bind fun v_3 =>
        p12_agesOf_J31 M (p12_agesOf_L4 M n) a0 x1 x3 x2 v_3
    else
      some x2
def p12_agesOf (a0 : Nat) (x1 : Int32) (M : mMem) : Option Int32 :=
  gd M a0 12 (
    p12_agesOf_L4 M gF a0 x1 0 0)
abbrev rm12_senior : Room := { frames := 3, cells := 0, slots := 0, locals := 66 }
def p12_senior_J55 (rec9 : Nat → Int32 → Int32 → mMem → Option (Int32 × mMem)) (a0 : Nat) (x1 : Int32) (x2 : Int32) (M : mMem) : Option (Int32 × mMem) :=
  rec9 a0 x1 (x2 + 1) M
def p12_senior_J53 (rec9 : Nat → Int32 → Int32 → mMem → Option (Int32 × mMem)) (a0 : Nat) (x2 : Int32) (M : mMem) : Option (Int32 × mMem) :=
  p12_senior_J55 rec9 a0 x2 x2 M
def p12_senior_L9 : Nat → Nat → Int32 → Int32 → mMem → Option (Int32 × mMem)
  | 0, _, _, _, _ => none
  | n + 1, a0, x1, x2, M =>
    (p12_people a0 M).bind fun v_1 =>
    if x2 < v_1 then
      (p12_of a0 x2 3 M).bind fun v_2 =>
      if v_2 = (-1) then
        if x1 = (-1) then
          p12_senior_J53 (p12_senior_L9 n) a0 x2 M
        else
          (p12_branchOf a0 x2 M).bind fun v_3 =>
          (p12_agesOf a0 v_3 M).bind fun v_4 =>
          (p12_branchOf a0 x1 M).bind fun v_5 =>
          (p12_agesOf a0 v_5 M).bind fun v_6 =>
          if v_4 < v_6 then
            p12_senior_J53 (p12_senior_L9 n) a0 x2 M
          else
            p12_senior_J55 (p12_senior_L9 n) a0 x1 x2 M
      else
        p12_senior_J55 (p12_senior_L9 n) a0 x1 x2 M
    else
      some (x1, M)
def p12_senior (a0 : Nat) (M : mMem) : Option (Int32 × mMem) :=
  gd M a0 12 (
    (putI M a0 12 0 0).bind fun M_1 =>
    p12_senior_L9 gF a0 (-1) 0 M_1)
abbrev rm12_closeTo : Room := { frames := 4, cells := 0, slots := 0, locals := 87 }
def p12_closeTo_J51 (M : mMem) (rec15 : Nat → Int32 → Int32 → Int32 → Int32 → Option Int32) (a0 : Nat) (x1 : Int32) (x3 : Int32) (x4 : Int32) (u0 : Int32) (u1 : Int32) : Option Int32 :=
  rec15 a0 x1 (u0 ||| u1) x3 (x4 + 1)
def p12_closeTo_J50 (M : mMem) (rec15 : Nat → Int32 → Int32 → Int32 → Int32 → Option Int32) (a0 : Nat) (x1 : Int32) (x3 : Int32) (x4 : Int32) (u0 : Int32) : Option Int32 :=
  p12_closeTo_J51 M rec15 a0 x1 x3 x4 u0 0
def p12_closeTo_L15 (M : mMem) (k59 : Nat → Int32 → Int32 → Int32 → Option Int32) : Nat → Nat → Int32 → Int32 → Int32 → Int32 → Option Int32
  | 0, _, _, _, _, _ => none
  | n + 1, a0, x1, x2, x3, x4 =>
    (p12_people a0 M).bind fun v_1 =>
    if x4 < v_1 then
      (p12_has x1 x3 M).bind fun v_2 =>
      if v_2 = 0 then
        p12_closeTo_J50 M (p12_closeTo_L15 M k59 n) a0 x1 x3 x4 x2
      else
        (p12_areClose a0 x3 x4 M).bind fun v_3 =>
        if v_3 = 0 then
          p12_closeTo_J50 M (p12_closeTo_L15 M k59 n) a0 x1 x3 x4 x2
        else
          p12_closeTo_J51 M (p12_closeTo_L15 M k59 n) a0 x1 x3 x4 x2 ((1 : Int32) <<< (x4 &&& 31))
    else
      k59 a0 x1 x2 x3
def p12_closeTo_J59 (M : mMem) (rec4 : Nat → Int32 → Int32 → Int32 → Option Int32) (a0 : Nat) (x1 : Int32) (x2 : Int32) (x3 : Int32) : Option Int32 :=
  rec4 a0 x1 x2 (x3 + 1)
def p12_closeTo_L4 (M : mMem) : Nat → Nat → Int32 → Int32 → Int32 → Option Int32
  | 0, _, _, _, _ => none
  | n + 1, a0, x1, x2, x3 =>
    (p12_people a0 M).bind fun v_1 =>
    if x3 < v_1 then
      p12_closeTo_L15 M (p12_closeTo_J59 M (p12_closeTo_L4 M n)) gF a0 x1 x2 x3 0
    else
      some x2
def p12_closeTo (a0 : Nat) (x1 : Int32) (M : mMem) : Option Int32 :=
  gd M a0 12 (
    p12_closeTo_L4 M gF a0 x1 x1 0)
abbrev rm12_kin : Room := { frames := 5, cells := 0, slots := 0, locals := 111 }
def p12_kin_L18 : Nat → Nat → Int32 → Int32 → Int32 → mMem → Option (Int32 × mMem)
  | 0, _, _, _, _, _ => none
  | n + 1, a0, x2, x3, x4, M =>
    if x4 < 8 then
      (p12_has x3 x2 M).bind fun v_1 =>
      if v_1 = 0 then
        (p12_closeTo a0 x3 M).bind fun v_2 =>
        (p12_kin_L18 n) a0 x2 v_2 (x4 + 1) M
      else
        some (x4, M)
    else
      some ((-1), M)
def p12_kin (a0 : Nat) (x1 : Int32) (x2 : Int32) (M : mMem) : Option (Int32 × mMem) :=
  gd M a0 12 (
    (p12_noTwo a0 x1 x2 M).bind fun q_1 =>
    if q_1.1 = 0 then
      p12_kin_L18 gF a0 x2 ((1 : Int32) <<< (x1 &&& 31)) 0 q_1.2
    else
      some (0, q_1.2))
abbrev rm12_grandOf : Room := { frames := 2, cells := 0, slots := 0, locals := 43 }
def p12_grandOf_J22 (M : mMem) (u0 : Int32) : Option Int32 :=
  some u0
def p12_grandOf (a0 : Nat) (x1 : Int32) (M : mMem) : Option Int32 :=
  gd M a0 12 (
    (p12_of a0 x1 3 M).bind fun v_1 =>
    if v_1 = (-1) then
      p12_grandOf_J22 M (-1)
    else
      (p12_of a0 v_1 3 M).bind fun v_2 =>
      p12_grandOf_J22 M v_2)
abbrev rm12_cousins : Room := { frames := 3, cells := 0, slots := 0, locals := 65 }
def p12_cousins_J77 (rec24 : Nat → Int32 → Int32 → Int32 → mMem → Option (Int32 × mMem)) (a0 : Nat) (x1 : Int32) (x3 : Int32) (u0 : Int32) (u1 : Int32) (M : mMem) : Option (Int32 × mMem) :=
  rec24 a0 x1 (u0 ||| u1) (x3 + 1) M
def p12_cousins_J76 (rec24 : Nat → Int32 → Int32 → Int32 → mMem → Option (Int32 × mMem)) (a0 : Nat) (x1 : Int32) (x3 : Int32) (u0 : Int32) (M : mMem) : Option (Int32 × mMem) :=
  p12_cousins_J77 rec24 a0 x1 x3 u0 0 M
def p12_cousins_L24 : Nat → Nat → Int32 → Int32 → Int32 → mMem → Option (Int32 × mMem)
  | 0, _, _, _, _, _ => none
  | n + 1, a0, x1, x2, x3, M =>
    (p12_people a0 M).bind fun v_1 =>
    if x3 < v_1 then
      (p12_grandOf a0 x3 M).bind fun v_2 =>
      if v_2 = (-1) then
        p12_cousins_J76 (p12_cousins_L24 n) a0 x1 x3 x2 M
      else
        (p12_grandOf a0 x3 M).bind fun v_3 =>
        (p12_grandOf a0 x1 M).bind fun v_4 =>
        if v_3 = v_4 then
          (p12_of a0 x3 3 M).bind fun v_5 =>
          (p12_of a0 x1 3 M).bind fun v_6 =>
          if v_5 = v_6 then
            p12_cousins_J76 (p12_cousins_L24 n) a0 x1 x3 x2 M
          else
            p12_cousins_J77 (p12_cousins_L24 n) a0 x1 x3 x2 ((1 : Int32) <<< (x3 &&& 31)) M
        else
          p12_cousins_J76 (p12_cousins_L24 n) a0 x1 x3 x2 M
    else
      some (x2, M)
def p12_cousins (a0 : Nat) (x1 : Int32) (M : mMem) : Option (Int32 × mMem) :=
  gd M a0 12 (
    (putI M a0 12 0 0).bind fun M_1 =>
    (p12_nobody a0 x1 M_1).bind fun v_2 =>
    (p12_throwsIf a0 v_2 1 M_1).bind fun q_3 =>
    if q_3.1 = 0 then
      p12_cousins_L24 gF a0 x1 0 0 q_3.2
    else
      some (0, q_3.2))
abbrev rm12_under : Room := { frames := 4, cells := 0, slots := 0, locals := 88 }
def p12_under_J66 (rec37 : Nat → Int32 → Int32 → Int32 → mMem → Option (Int32 × mMem)) (a0 : Nat) (x3 : Int32) (x4 : Int32) (u0 : Int32) (u1 : Int32) (M : mMem) : Option (Int32 × mMem) :=
  rec37 a0 (u0 ||| u1) x3 (x4 + 1) M
def p12_under_L37 (k74 : Nat → Int32 → Int32 → mMem → Option (Int32 × mMem)) : Nat → Nat → Int32 → Int32 → Int32 → mMem → Option (Int32 × mMem)
  | 0, _, _, _, _, _ => none
  | n + 1, a0, x2, x3, x4, M =>
    (p12_people a0 M).bind fun v_1 =>
    if x4 < v_1 then
      (p12_has x2 x4 M).bind fun v_2 =>
      if v_2 = 0 then
        p12_under_J66 (p12_under_L37 k74 n) a0 x3 x4 x2 0 M
      else
        (p12_governedBy a0 x4 M).bind fun v_3 =>
        p12_under_J66 (p12_under_L37 k74 n) a0 x3 x4 x2 v_3 M
    else
      k74 a0 x2 x3 M
def p12_under_J74 (rec28 : Nat → Int32 → Int32 → mMem → Option (Int32 × mMem)) (a0 : Nat) (x2 : Int32) (x3 : Int32) (M : mMem) : Option (Int32 × mMem) :=
  rec28 a0 x2 (x3 + 1) M
def p12_under_L28 : Nat → Nat → Int32 → Int32 → mMem → Option (Int32 × mMem)
  | 0, _, _, _, _ => none
  | n + 1, a0, x2, x3, M =>
    if x3 < 8 then
      p12_under_L37 (p12_under_J74 (p12_under_L28 n)) gF a0 x2 x3 0 M
    else
      some (x2, M)
def p12_under (a0 : Nat) (x1 : Int32) (M : mMem) : Option (Int32 × mMem) :=
  gd M a0 12 (
    (putI M a0 12 0 0).bind fun M_1 =>
    (p12_nobody a0 x1 M_1).bind fun v_2 =>
    (p12_throwsIf a0 v_2 1 M_1).bind fun q_3 =>
    if q_3.1 = 0 then
      (p12_governedBy a0 x1 q_3.2).bind fun v_4 =>
      p12_under_L28 gF a0 v_4 0 q_3.2
    else
      some (0, q_3.2))
abbrev rm12_free : Room := { frames := 2, cells := 0, slots := 0, locals := 43 }
def p12_free_J35 (rec9 : Nat → Int32 → Int32 → mMem → Option (Int32 × mMem)) (a0 : Nat) (x2 : Int32) (u0 : Int32) (u1 : Int32) (M : mMem) : Option (Int32 × mMem) :=
  rec9 a0 (u0 ||| u1) (x2 + 1) M
def p12_free_L9 : Nat → Nat → Int32 → Int32 → mMem → Option (Int32 × mMem)
  | 0, _, _, _, _ => none
  | n + 1, a0, x1, x2, M =>
    (p12_people a0 M).bind fun v_1 =>
    if x2 < v_1 then
      (p12_of a0 x2 8 M).bind fun v_2 =>
      if v_2 = 0 then
        p12_free_J35 (p12_free_L9 n) a0 x2 x1 ((1 : Int32) <<< (x2 &&& 31)) M
      else
        p12_free_J35 (p12_free_L9 n) a0 x2 x1 0 M
    else
      some (x1, M)
def p12_free (a0 : Nat) (M : mMem) : Option (Int32 × mMem) :=
  gd M a0 12 (
    (putI M a0 12 0 0).bind fun M_1 =>
    p12_free_L9 gF a0 0 0 M_1)
abbrev rm12_odds : Room := { frames := 3, cells := 0, slots := 0, locals := 65 }
def p12_odds_J49 (M : mMem) : Option (Int32 × mMem) :=
  some (0, M)
def p12_odds_J110 (rec76 : Nat → Int32 → Int32 → Int32 → Int32 → Int64 → Int32 → mMem → Option (Int32 × mMem)) (a0 : Nat) (x1 : Int32) (x2 : Int32) (x3 : Int32) (x4 : Int32) (x7 : Int32) (w0 : Int64) (w1 : Int64) (M : mMem) : Option (Int32 × mMem) :=
  rec76 a0 x1 x2 x3 x4 (w0 + w1) (x7 + 1) M
def p12_odds_L76 (k119 : Nat → Int32 → Int32 → Int32 → Int32 → Int64 → mMem → Option (Int32 × mMem)) : Nat → Nat → Int32 → Int32 → Int32 → Int32 → Int64 → Int32 → mMem → Option (Int32 × mMem)
  | 0, _, _, _, _, _, _, _, _ => none
  | n + 1, a0, x1, x2, x3, x4, y5, x7, M =>
    (p12_people a0 M).bind fun v_1 =>
    if x7 < v_1 then
      (p12_governs a0 x7 x1 M).bind fun v_2 =>
      if v_2 = 0 then
        p12_odds_J110 (p12_odds_L76 k119 n) a0 x1 x2 x3 x4 x7 y5 0 M
      else
        (p12_of a0 x7 6 M).bind fun v_3 =>
        p12_odds_J110 (p12_odds_L76 k119 n) a0 x1 x2 x3 x4 x7 y5 (v_3.toInt64) M
    else
      k119 a0 x1 x2 x3 x4 y5 M
def p12_odds_J168 (rec146 : Nat → Int32 → Int32 → Int64 → Int64 → Int64 → Int32 → mMem → Option (Int32 × mMem)) (a0 : Nat) (x2 : Int32) (x3 : Int32) (y7 : Int64) (y9 : Int64) (y11 : Int64) (x13 : Int32) (b0 : Nat) (u1 : Int32) (w2 : Int64) (M : mMem) : Option (Int32 × mMem) :=
  (astL M b0 u1 w2).bind fun M_1 =>
  rec146 a0 x2 x3 y7 y9 y11 (x13 + 1) M_1
def p12_odds_L146 (k175 : Nat → Int32 → Int32 → Int64 → Int64 → Int64 → mMem → Option (Int32 × mMem)) : Nat → Nat → Int32 → Int32 → Int64 → Int64 → Int64 → Int32 → mMem → Option (Int32 × mMem)
  | 0, _, _, _, _, _, _, _, _ => none
  | n + 1, a0, x2, x3, y7, y9, y11, x13, M =>
    if 3 < x13 then
      k175 a0 x2 x3 y7 y9 y11 M
    else
      (getR M a0 12 26).bind fun v_1 =>
      if x13 = 0 then
        p12_odds_J168 (p12_odds_L146 k175 n) a0 x2 x3 y7 y9 y11 x13 v_1 x13 1 M
      else
        p12_odds_J168 (p12_odds_L146 k175 n) a0 x2 x3 y7 y9 y11 x13 v_1 x13 0 M
def p12_odds_J232 (rec187 : Nat → Int32 → Int32 → Int64 → Int64 → Int64 → Int32 → Int32 → mMem → Option (Int32 × mMem)) (a0 : Nat) (x2 : Int32) (x3 : Int32) (y7 : Int64) (y9 : Int64) (y11 : Int64) (x13 : Int32) (x14 : Int32) (b0 : Nat) (u1 : Int32) (w2 : Int64) (w3 : Int64) (M : mMem) : Option (Int32 × mMem) :=
  (astL M b0 u1 (w2 + w3)).bind fun M_1 =>
  rec187 a0 x2 x3 y7 y9 y11 x13 (x14 + (-1)) M_1
def p12_odds_L187 (k240 : Nat → Int32 → Int32 → Int64 → Int64 → Int64 → Int32 → mMem → Option (Int32 × mMem)) : Nat → Nat → Int32 → Int32 → Int64 → Int64 → Int64 → Int32 → Int32 → mMem → Option (Int32 × mMem)
  | 0, _, _, _, _, _, _, _, _, _ => none
  | n + 1, a0, x2, x3, y7, y9, y11, x13, x14, M =>
    if x14 < 0 then
      k240 a0 x2 x3 y7 y9 y11 x13 M
    else
      (getR M a0 12 26).bind fun v_1 =>
      (getR M a0 12 26).bind fun v_2 =>
      (aldL M v_2 x14).bind fun v_3 =>
      if x14 = 0 then
        p12_odds_J232 (p12_odds_L187 k240 n) a0 x2 x3 y7 y9 y11 x13 x14 v_1 x14 (v_3 * (y9 - y7)) 0 M
      else
        (getR M a0 12 26).bind fun v_4 =>
        (aldL M v_4 (x14 - 1)).bind fun v_5 =>
        p12_odds_J232 (p12_odds_L187 k240 n) a0 x2 x3 y7 y9 y11 x13 x14 v_1 x14 (v_3 * (y9 - y7)) (v_5 * y7) M
def p12_odds_J240 (rec178 : Nat → Int32 → Int32 → Int64 → Int64 → Int64 → Int32 → mMem → Option (Int32 × mMem)) (a0 : Nat) (x2 : Int32) (x3 : Int32) (y7 : Int64) (y9 : Int64) (y11 : Int64) (x13 : Int32) (M : mMem) : Option (Int32 × mMem) :=
  rec178 a0 x2 x3 y7 y9 (y11 * y9) (x13 + 1) M
def p12_odds_L178 (k253 : Nat → Int32 → Int64 → mMem → Option (Int32 × mMem)) : Nat → Nat → Int32 → Int32 → Int64 → Int64 → Int64 → Int32 → mMem → Option (Int32 × mMem)
  | 0, _, _, _, _, _, _, _, _ => none
  | n + 1, a0, x2, x3, y7, y9, y11, x13, M =>
    if x13 < x2 then
      p12_odds_L187 (p12_odds_J240 (p12_odds_L178 k253 n)) gF a0 x2 x3 y7 y9 y11 x13 3 M
    else
      k253 a0 x3 y11 M
def p12_odds_L259 : Nat → Nat → Int64 → Int64 → Int32 → mMem → Option (Int32 × mMem)
  | 0, _, _, _, _, _ => none
  | n + 1, a0, y11, y13, x15, M =>
    if 3 < x15 then
      (divL ((10000 : Int64) * y13) y11).bind fun v_1 =>
      some ((v_1.toInt32), M)
    else
      (getR M a0 12 26).bind fun v_2 =>
      (aldL M v_2 x15).bind fun v_3 =>
      (p12_odds_L259 n) a0 y11 (y13 + v_3) (x15 + 1) M
def p12_odds_J253 (a0 : Nat) (x3 : Int32) (y11 : Int64) (M : mMem) : Option (Int32 × mMem) :=
  p12_odds_L259 gF a0 y11 0 x3 M
def p12_odds_J175 (a0 : Nat) (x2 : Int32) (x3 : Int32) (y7 : Int64) (y9 : Int64) (y11 : Int64) (M : mMem) : Option (Int32 × mMem) :=
  p12_odds_L178 p12_odds_J253 gF a0 x2 x3 y7 y9 y11 0 M
def p12_odds_J119 (a0 : Nat) (x1 : Int32) (x2 : Int32) (x3 : Int32) (x4 : Int32) (y5 : Int64) (M : mMem) : Option (Int32 × mMem) :=
  (p12_of a0 x1 5 M).bind fun v_1 =>
  p12_odds_L146 p12_odds_J175 gF a0 x2 x3 ((v_1.toInt64) * y5) ((10000 : Int64) * (x4.toInt64)) 1 0 M
def p12_odds_J42 (a0 : Nat) (x1 : Int32) (x2 : Int32) (x3 : Int32) (b0 : Nat) (u1 : Int32) (M : mMem) : Option (Int32 × mMem) :=
  (p12_throwsIf b0 u1 2 M).bind fun q_1 =>
  if q_1.1 = 0 then
    (p12_of a0 x1 8 q_1.2).bind fun v_2 =>
    (pJ6_bitCount v_2 q_1.2).bind fun v_3 =>
    if v_3 = 0 then
      some (0, q_1.2)
    else
      p12_odds_L76 p12_odds_J119 gF a0 x1 x2 x3 v_3 0 0 q_1.2
  else
    p12_odds_J49 q_1.2
def p12_odds_J37 (a0 : Nat) (x1 : Int32) (x2 : Int32) (x3 : Int32) (b0 : Nat) (M : mMem) : Option (Int32 × mMem) :=
  p12_odds_J42 a0 x1 x2 x3 b0 1 M
def p12_odds (a0 : Nat) (x1 : Int32) (x2 : Int32) (x3 : Int32) (M : mMem) : Option (Int32 × mMem) :=
  gd M a0 12 (
    (putI M a0 12 0 0).bind fun M_1 =>
    (p12_nobody a0 x1 M_1).bind fun v_2 =>
    (p12_throwsIf a0 v_2 1 M_1).bind fun q_3 =>
    if q_3.1 = 0 then
      (p12_in x2 0 3 q_3.2).bind fun v_4 =>
      if v_4 = 0 then
        p12_odds_J37 a0 x1 x2 x3 a0 q_3.2
      else
        (p12_in x3 0 3 q_3.2).bind fun v_5 =>
        if v_5 = 0 then
          p12_odds_J37 a0 x1 x2 x3 a0 q_3.2
        else
          p12_odds_J42 a0 x1 x2 x3 a0 0 q_3.2
    else
      p12_odds_J49 q_3.2)
abbrev rm12_twins : Room := { frames := 2, cells := 0, slots := 0, locals := 43 }
def p12_twins_J45 (rec19 : Nat → Int32 → Int32 → Int32 → mMem → Option (Int32 × mMem)) (a0 : Nat) (x2 : Int32) (x3 : Int32) (u0 : Int32) (u1 : Int32) (M : mMem) : Option (Int32 × mMem) :=
  rec19 a0 (u0 + u1) x2 (x3 + 1) M
def p12_twins_L19 (k53 : Nat → Int32 → Int32 → mMem → Option (Int32 × mMem)) : Nat → Nat → Int32 → Int32 → Int32 → mMem → Option (Int32 × mMem)
  | 0, _, _, _, _, _ => none
  | n + 1, a0, x1, x2, x3, M =>
    if x3 < x2 then
      (p12_of a0 x2 0 M).bind fun v_1 =>
      (p12_of a0 x3 0 M).bind fun v_2 =>
      if v_1 = v_2 then
        p12_twins_J45 (p12_twins_L19 k53 n) a0 x2 x3 x1 1 M
      else
        p12_twins_J45 (p12_twins_L19 k53 n) a0 x2 x3 x1 0 M
    else
      k53 a0 x1 x2 M
def p12_twins_J53 (rec9 : Nat → Int32 → Int32 → mMem → Option (Int32 × mMem)) (a0 : Nat) (x1 : Int32) (x2 : Int32) (M : mMem) : Option (Int32 × mMem) :=
  rec9 a0 x1 (x2 + 1) M
def p12_twins_L9 : Nat → Nat → Int32 → Int32 → mMem → Option (Int32 × mMem)
  | 0, _, _, _, _ => none
  | n + 1, a0, x1, x2, M =>
    (p12_people a0 M).bind fun v_1 =>
    if x2 < v_1 then
      p12_twins_L19 (p12_twins_J53 (p12_twins_L9 n)) gF a0 x1 x2 0 M
    else
      some (x1, M)
def p12_twins (a0 : Nat) (M : mMem) : Option (Int32 × mMem) :=
  gd M a0 12 (
    (putI M a0 12 0 0).bind fun M_1 =>
    p12_twins_L9 gF a0 0 0 M_1)
abbrev rm12_agesOfAll : Room := { frames := 3, cells := 0, slots := 0, locals := 66 }
def p12_agesOfAll (a0 : Nat) (M : mMem) : Option Int32 :=
  gd M a0 12 (
    (p12_people a0 M).bind fun v_1 =>
    (p12_agesOf a0 (((1 : Int32) <<< (v_1 &&& 31)) - 1) M).bind fun v_2 =>
    some v_2)
abbrev rm12_mean : Room := { frames := 4, cells := 0, slots := 0, locals := 86 }
def p12_mean_J25 (u0 : Int32) (M : mMem) : Option (Int32 × mMem) :=
  some (u0, M)
def p12_mean (a0 : Nat) (M : mMem) : Option (Int32 × mMem) :=
  gd M a0 12 (
    (putI M a0 12 0 0).bind fun M_1 =>
    (p12_people a0 M_1).bind fun v_2 =>
    if v_2 = 0 then
      p12_mean_J25 0 M_1
    else
      (p12_agesOfAll a0 M_1).bind fun v_3 =>
      (p12_people a0 M_1).bind fun v_4 =>
      (divI v_3 v_4).bind fun v_5 =>
      p12_mean_J25 v_5 M_1)
abbrev rm12_oldest : Room := { frames := 2, cells := 0, slots := 0, locals := 43 }
def p12_oldest_J39 (rec9 : Nat → Int32 → Int32 → mMem → Option (Int32 × mMem)) (a0 : Nat) (x1 : Int32) (x2 : Int32) (M : mMem) : Option (Int32 × mMem) :=
  rec9 a0 x1 (x2 + 1) M
def p12_oldest_J37 (rec9 : Nat → Int32 → Int32 → mMem → Option (Int32 × mMem)) (a0 : Nat) (x2 : Int32) (M : mMem) : Option (Int32 × mMem) :=
  p12_oldest_J39 rec9 a0 x2 x2 M
def p12_oldest_L9 : Nat → Nat → Int32 → Int32 → mMem → Option (Int32 × mMem)
  | 0, _, _, _, _ => none
  | n + 1, a0, x1, x2, M =>
    (p12_people a0 M).bind fun v_1 =>
    if x2 < v_1 then
      if x1 = (-1) then
        p12_oldest_J37 (p12_oldest_L9 n) a0 x2 M
      else
        (p12_of a0 x2 0 M).bind fun v_2 =>
        (p12_of a0 x1 0 M).bind fun v_3 =>
        if v_3 < v_2 then
          p12_oldest_J37 (p12_oldest_L9 n) a0 x2 M
        else
          p12_oldest_J39 (p12_oldest_L9 n) a0 x1 x2 M
    else
      some (x1, M)
def p12_oldest (a0 : Nat) (M : mMem) : Option (Int32 × mMem) :=
  gd M a0 12 (
    (putI M a0 12 0 0).bind fun M_1 =>
    p12_oldest_L9 gF a0 (-1) 0 M_1)
abbrev rm12_youngest : Room := { frames := 2, cells := 0, slots := 0, locals := 43 }
def p12_youngest_J39 (rec9 : Nat → Int32 → Int32 → mMem → Option (Int32 × mMem)) (a0 : Nat) (x1 : Int32) (x2 : Int32) (M : mMem) : Option (Int32 × mMem) :=
  rec9 a0 x1 (x2 + 1) M
def p12_youngest_J37 (rec9 : Nat → Int32 → Int32 → mMem → Option (Int32 × mMem)) (a0 : Nat) (x2 : Int32) (M : mMem) : Option (Int32 × mMem) :=
  p12_youngest_J39 rec9 a0 x2 x2 M
def p12_youngest_L9 : Nat → Nat → Int32 → Int32 → mMem → Option (Int32 × mMem)
  | 0, _, _, _, _ => none
  | n + 1, a0, x1, x2, M =>
    (p12_people a0 M).bind fun v_1 =>
    if x2 < v_1 then
      if x1 = (-1) then
        p12_youngest_J37 (p12_youngest_L9 n) a0 x2 M
      else
        (p12_of a0 x2 0 M).bind fun v_2 =>
        (p12_of a0 x1 0 M).bind fun v_3 =>
        if v_2 < v_3 then
          p12_youngest_J37 (p12_youngest_L9 n) a0 x2 M
        else
          p12_youngest_J39 (p12_youngest_L9 n) a0 x1 x2 M
    else
      some (x1, M)
def p12_youngest (a0 : Nat) (M : mMem) : Option (Int32 × mMem) :=
  gd M a0 12 (
    (putI M a0 12 0 0).bind fun M_1 =>
    p12_youngest_L9 gF a0 (-1) 0 M_1)
abbrev rm12_crib : Room := { frames := 3, cells := 0, slots := 0, locals := 65 }
def p12_crib (a0 : Nat) (M : mMem) : Option (Int32 × mMem) :=
  gd M a0 12 (
    (putI M a0 12 0 0).bind fun M_1 =>
    (p12_cribOnes a0 M_1).bind fun v_2 =>
    some (v_2, M_1))
abbrev rm12_spread : Room := { frames := 2, cells := 0, slots := 0, locals := 43 }
def p12_spread_L23 (k71 : Nat → Int32 → Int32 → Int32 → mMem → Option (Int32 × mMem)) : Nat → Nat → Int32 → Int32 → Int32 → Int32 → mMem → Option (Int32 × mMem)
  | 0, _, _, _, _, _, _ => none
  | n + 1, a0, x1, x2, x3, x4, M =>
    (p12_people a0 M).bind fun v_1 =>
    if x4 < v_1 then
      (p12_of a0 x4 0 M).bind fun v_2 =>
      (p12_of a0 x2 0 M).bind fun v_3 =>
      (getR M a0 12 1).bind fun v_4 =>
      (aldI M v_4 20 4).bind fun v_5 =>
      (getR M a0 12 1).bind fun v_6 =>
      (aldI M v_6 20 4).bind fun v_7 =>
      (remI ((v_2 - v_3) + v_5) v_7).bind fun v_8 =>
      (p12_spread_L23 k71 n) a0 x1 x2 (maxI x3 v_8) (x4 + 1) M
    else
      k71 a0 x1 x2 x3 M
def p12_spread_J71 (rec10 : Nat → Int32 → Int32 → mMem → Option (Int32 × mMem)) (a0 : Nat) (x1 : Int32) (x2 : Int32) (x3 : Int32) (M : mMem) : Option (Int32 × mMem) :=
  rec10 a0 (minI x1 x3) (x2 + 1) M
def p12_spread_L10 (k83 : Int32 → mMem → Option (Int32 × mMem)) : Nat → Nat → Int32 → Int32 → mMem → Option (Int32 × mMem)
  | 0, _, _, _, _ => none
  | n + 1, a0, x1, x2, M =>
    (p12_people a0 M).bind fun v_1 =>
    if x2 < v_1 then
      p12_spread_L23 (p12_spread_J71 (p12_spread_L10 k83 n)) gF a0 x1 x2 0 0 M
    else
      k83 x1 M
def p12_spread_J94 (u0 : Int32) (M : mMem) : Option (Int32 × mMem) :=
  some (u0, M)
def p12_spread_J83 (x1 : Int32) (M : mMem) : Option (Int32 × mMem) :=
  if x1 = 1000000 then
    p12_spread_J94 0 M
  else
    p12_spread_J94 x1 M
def p12_spread (a0 : Nat) (M : mMem) : Option (Int32 × mMem) :=
  gd M a0 12 (
    (putI M a0 12 0 0).bind fun M_1 =>
    p12_spread_L10 p12_spread_J83 gF a0 1000000 0 M_1)
