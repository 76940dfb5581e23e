abbrev rm5_next : Room := { frames := 0, cells := 0, slots := 0, locals := 0 }
def p5_next_J43 (M : mMem) (u0 : Int32) : Option Int32 :=
  some u0
def p5_next_J42 (M : mMem) : Option Int32 :=
  p5_next_J43 M 1
def p5_next (a0 : Nat) (M : mMem) : Option Int32 :=
  gd M a0 6 (
    (getI M a0 6 6).bind fun v_1 =>
    if v_1 < 0 then
      p5_next_J42 M
    else
      (getI M a0 6 6).bind fun v_2 =>
      (getI M a0 6 4).bind fun v_3 =>
      if v_2 < v_3 then
        (getI M a0 6 6).bind fun v_4 =>
        (getR M a0 6 0).bind fun v_5 =>
        (lenA M v_5).bind fun v_6 =>
        if v_4 < v_6 then
          (getR M a0 6 0).bind fun v_7 =>
          (getI M a0 6 6).bind fun v_8 =>
          (aldI M v_7 20 v_8).bind fun v_9 =>
          p5_next_J43 M v_9
        else
          p5_next_J42 M
      else
        p5_next_J42 M)
abbrev rm5_numberOfNext : Room := { frames := 0, cells := 0, slots := 0, locals := 0 }
def p5_numberOfNext_J43 (M : mMem) (u0 : Int32) : Option Int32 :=
  some u0
def p5_numberOfNext_J42 (M : mMem) : Option Int32 :=
  p5_numberOfNext_J43 M 0
def p5_numberOfNext (a0 : Nat) (M : mMem) : Option Int32 :=
  gd M a0 6 (
    (getI M a0 6 6).bind fun v_1 =>
    if v_1 < 0 then
      p5_numberOfNext_J42 M
    else
      (getI M a0 6 6).bind fun v_2 =>
      (getI M a0 6 4).bind fun v_3 =>
      if v_2 < v_3 then
        (getI M a0 6 6).bind fun v_4 =>
        (getR M a0 6 2).bind fun v_5 =>
        (lenA M v_5).bind fun v_6 =>
        if v_4 < v_6 then
          (getR M a0 6 2).bind fun v_7 =>
          (getI M a0 6 6).bind fun v_8 =>
          (aldI M v_7 20 v_8).bind fun v_9 =>
          p5_numberOfNext_J43 M v_9
        else
          p5_numberOfNext_J42 M
      else
        p5_numberOfNext_J42 M)
abbrev rm5_tookNumber : Room := { frames := 1, cells := 0, slots := 0, locals := 20 }
def p5_tookNumber_J23 (M : mMem) : Option (Int32 × mMem) :=
  some (0, M)
def p5_tookNumber (a0 : Nat) (x1 : Int32) (x2 : Int32) (M : mMem) : Option (Int32 × mMem) :=
  gd M a0 6 (
    (p5_numberOfNext a0 M).bind fun v_1 =>
    (p5_next a0 M).bind fun v_2 =>
    if v_2 = 2 then
      if v_1 < x1 then
        p5_tookNumber_J23 M
      else
        if x2 < v_1 then
          p5_tookNumber_J23 M
        else
          (putI M a0 6 7 v_1).bind fun M_3 =>
          (getI M_3 a0 6 6).bind fun v_4 =>
          (putI M_3 a0 6 6 (v_4 + 1)).bind fun M_5 =>
          some (1, M_5)
    else
      p5_tookNumber_J23 M)
abbrev rm5_took : Room := { frames := 1, cells := 0, slots := 0, locals := 20 }
def p5_took (a0 : Nat) (x1 : Int32) (M : mMem) : Option (Int32 × mMem) :=
  gd M a0 6 (
    (p5_next a0 M).bind fun v_1 =>
    if v_1 = x1 then
      (getI M a0 6 6).bind fun v_2 =>
      (putI M a0 6 6 (v_2 + 1)).bind fun M_3 =>
      some (1, M_3)
    else
      some (0, M))
abbrev rm5_isPart : Room := { frames := 0, cells := 0, slots := 0, locals := 0 }
def p5_isPart_J46 (M : mMem) (u0 : Int32) : Option Int32 :=
  (bZ u0).bind fun z => some z
def p5_isPart_J41 (M : mMem) : Option Int32 :=
  p5_isPart_J46 M 1
def p5_isPart (x0 : Int32) (M : mMem) : Option Int32 :=
  if x0 = 2 then
    p5_isPart_J41 M
  else
    if x0 = 26 then
      p5_isPart_J41 M
    else
      if x0 = 27 then
        p5_isPart_J41 M
      else
        if x0 = 6 then
          p5_isPart_J41 M
        else
          if x0 = 28 then
            p5_isPart_J41 M
          else
            if x0 = 29 then
              p5_isPart_J41 M
            else
              if x0 = 16 then
                p5_isPart_J41 M
              else
                p5_isPart_J46 M 0
abbrev rm5_readSum : Room := { frames := 2, cells := 0, slots := 0, locals := 41 }
def p5_readSum_J59 (rec2 : Nat → Int32 → mMem → Option (Int32 × mMem)) (a0 : Nat) (x1 : Int32) (M : mMem) : Option (Int32 × mMem) :=
  (p5_took a0 43 M).bind fun q_1 =>
  if q_1.1 = 0 then
    some (1, q_1.2)
  else
    rec2 a0 (x1 + 1) q_1.2
def p5_readSum_L2 : Nat → Nat → Int32 → mMem → Option (Int32 × mMem)
  | 0, _, _, _ => none
  | n + 1, a0, x1, M =>
    if x1 < 400 then
      (p5_next a0 M).bind fun v_1 =>
      (p5_isPart v_1 M).bind fun v_2 =>
      if v_2 = 0 then
        some (0, M)
      else
        (getR M a0 6 8).bind fun v_3 =>
        (p5_numberOfNext a0 M).bind fun v_4 =>
        (p4_put v_3 v_1 v_4 M).bind fun q_5 =>
        (getI q_5 a0 6 6).bind fun v_6 =>
        (putI q_5 a0 6 6 (v_6 + 1)).bind fun M_7 =>
        if 0 < x1 then
          (getR M_7 a0 6 8).bind fun v_8 =>
          (p4_put v_8 43 0 M_7).bind fun q_9 =>
          p5_readSum_J59 (p5_readSum_L2 n) a0 x1 q_9
        else
          p5_readSum_J59 (p5_readSum_L2 n) a0 x1 M_7
    else
      some (0, M)
def p5_readSum (a0 : Nat) (M : mMem) : Option (Int32 × mMem) :=
  gd M a0 6 (
    p5_readSum_L2 gF a0 0 M)
abbrev rm5_readComparison : Room := { frames := 3, cells := 0, slots := 0, locals := 63 }
def p5_readComparison_J28 (a0 : Nat) (x1 : Int32) (M : mMem) : Option (Int32 × mMem) :=
  (getI M a0 6 6).bind fun v_1 =>
  (putI M a0 6 6 (v_1 + 1)).bind fun M_2 =>
  (p5_readSum a0 M_2).bind fun q_3 =>
  if q_3.1 = 0 then
    some (0, q_3.2)
  else
    (getR q_3.2 a0 6 8).bind fun v_4 =>
    (p4_put v_4 x1 0 q_3.2).bind fun q_5 =>
    some (1, q_5)
def p5_readComparison (a0 : Nat) (M : mMem) : Option (Int32 × mMem) :=
  gd M a0 6 (
    (p5_readSum a0 M).bind fun q_1 =>
    if q_1.1 = 0 then
      some (0, q_1.2)
    else
      (p5_next a0 q_1.2).bind fun v_2 =>
      if v_2 = 60 then
        p5_readComparison_J28 a0 v_2 q_1.2
      else
        if v_2 = 62 then
          p5_readComparison_J28 a0 v_2 q_1.2
        else
          some (0, q_1.2))
def rmG1 (d : Nat) : Room := { frames := d + 4, cells := 0, slots := 0, locals := 22 * d + 84 }
def p5_readAtom_J65 (u0 : Int32) (M : mMem) : Option (Int32 × mMem) :=
  (bZ u0).bind fun z => some (z, M)
def p5_readAtom_J64 (M : mMem) : Option (Int32 × mMem) :=
  p5_readAtom_J65 0 M
def p5_readAtom_J17 (f_5_readAny : Nat → Int32 → mMem → Option (Int32 × mMem)) (f_5_readAtom : Nat → Int32 → mMem → Option (Int32 × mMem)) (a0 : Nat) (x1 : Int32) (x2 : Int32) (M : mMem) : Option (Int32 × mMem) :=
  if x1 < 6 then
    (getI M a0 6 6).bind fun v_1 =>
    (putI M a0 6 6 (v_1 + 1)).bind fun M_2 =>
    if x2 = 40 then
      (f_5_readAny a0 (x1 + 1) M_2).bind fun q_6 =>
      if q_6.1 = 0 then
        p5_readAtom_J64 q_6.2
      else
        (p5_took a0 41 q_6.2).bind fun q_7 =>
        if q_7.1 = 0 then
          p5_readAtom_J64 q_7.2
        else
          p5_readAtom_J65 1 q_7.2
    else
      (f_5_readAtom a0 (x1 + 1) M_2).bind fun q_3 =>
      if q_3.1 = 0 then
        some (0, q_3.2)
      else
        (getR q_3.2 a0 6 8).bind fun v_4 =>
        (p4_put v_4 23 0 q_3.2).bind fun q_5 =>
        some (1, q_5)
  else
    some (0, M)
def p5_readAtom_J108 (a0 : Nat) (x2 : Int32) (M : mMem) : Option (Int32 × mMem) :=
  (getI M a0 6 6).bind fun v_1 =>
  (putI M a0 6 6 (v_1 + 1)).bind fun M_2 =>
  (getR M_2 a0 6 8).bind fun v_3 =>
  (p4_put v_3 x2 0 M_2).bind fun q_4 =>
  some (1, q_4)
def p5_readAtom_B (f_5_readAny : Nat → Int32 → mMem → Option (Int32 × mMem)) (f_5_readAtom : Nat → Int32 → mMem → Option (Int32 × mMem)) (a0 : Nat) (x1 : Int32) (M : mMem) : Option (Int32 × mMem) :=
  gd M a0 6 (
    (p5_next a0 M).bind fun v_1 =>
    if v_1 = 40 then
      p5_readAtom_J17 f_5_readAny f_5_readAtom a0 x1 v_1 M
    else
      if v_1 = 23 then
        p5_readAtom_J17 f_5_readAny f_5_readAtom a0 x1 v_1 M
      else
        if v_1 = 12 then
          p5_readAtom_J108 a0 v_1 M
        else
          if v_1 = 24 then
            p5_readAtom_J108 a0 v_1 M
          else
            if v_1 = 25 then
              p5_readAtom_J108 a0 v_1 M
            else
              (p5_readComparison a0 M).bind fun q_2 =>
              (bZ q_2.1).bind fun z => some (z, q_2.2))
def p5_readAll_J54 (M : mMem) : Option (Int32 × mMem) :=
  some (1, M)
def p5_readAll_L12 (f_5_readAtom : Nat → Int32 → mMem → Option (Int32 × mMem)) : Nat → Nat → Int32 → Int32 → mMem → Option (Int32 × mMem)
  | 0, _, _, _, _ => none
  | n + 1, a0, x1, x2, M =>
    if x2 < 400 then
      (p5_took a0 22 M).bind fun q_1 =>
      if q_1.1 = 0 then
        p5_readAll_J54 q_1.2
      else
        (f_5_readAtom a0 x1 q_1.2).bind fun q_2 =>
        if q_2.1 = 0 then
          some (0, q_2.2)
        else
          (getR q_2.2 a0 6 8).bind fun v_3 =>
          (p4_put v_3 22 0 q_2.2).bind fun q_4 =>
          (p5_readAll_L12 f_5_readAtom n) a0 x1 (x2 + 1) q_4
    else
      p5_readAll_J54 M
def p5_readAll_B (f_5_readAtom : Nat → Int32 → mMem → Option (Int32 × mMem)) (a0 : Nat) (x1 : Int32) (M : mMem) : Option (Int32 × mMem) :=
  gd M a0 6 (
    (f_5_readAtom a0 x1 M).bind fun q_1 =>
    if q_1.1 = 0 then
      some (0, q_1.2)
    else
      p5_readAll_L12 f_5_readAtom gF a0 x1 0 q_1.2)
def p5_readAny_J54 (M : mMem) : Option (Int32 × mMem) :=
  some (1, M)
def p5_readAny_L12 (f_5_readAll : Nat → Int32 → mMem → Option (Int32 × mMem)) : Nat → Nat → Int32 → Int32 → mMem → Option (Int32 × mMem)
  | 0, _, _, _, _ => none
  | n + 1, a0, x1, x2, M =>
    if x2 < 400 then
      (p5_took a0 21 M).bind fun q_1 =>
      if q_1.1 = 0 then
        p5_readAny_J54 q_1.2
      else
        (f_5_readAll a0 x1 q_1.2).bind fun q_2 =>
        if q_2.1 = 0 then
          some (0, q_2.2)
        else
          (getR q_2.2 a0 6 8).bind fun v_3 =>
          (p4_put v_3 21 0 q_2.2).bind fun q_4 =>
          (p5_readAny_L12 f_5_readAll n) a0 x1 (x2 + 1) q_4
    else
      p5_readAny_J54 M
def p5_readAny_B (f_5_readAll : Nat → Int32 → mMem → Option (Int32 × mMem)) (a0 : Nat) (x1 : Int32) (M : mMem) : Option (Int32 × mMem) :=
  gd M a0 6 (
    (f_5_readAll a0 x1 M).bind fun q_1 =>
    if q_1.1 = 0 then
      some (0, q_1.2)
    else
      p5_readAny_L12 f_5_readAll gF a0 x1 0 q_1.2)
def grp1 : Nat → (Nat → Int32 → mMem → Option (Int32 × mMem)) × (Nat → Int32 → mMem → Option (Int32 × mMem)) × (Nat → Int32 → mMem → Option (Int32 × mMem))
  | 0 => (fun _ _ _ => none, fun _ _ _ => none, fun _ _ _ => none)
  | d + 1 => (fun a0 x1 M => p5_readAtom_B ((grp1 d).2.2) ((grp1 d).1) a0 x1 M,
      fun a0 x1 M => p5_readAll_B ((grp1 d).1) a0 x1 M,
      fun a0 x1 M => p5_readAny_B ((grp1 d).2.1) a0 x1 M)
def p5_readAtom (a0 : Nat) (x1 : Int32) (M : mMem) : Option (Int32 × mMem) := (grp1 64).1 a0 x1 M
abbrev rm5_readAtom : Room := { frames := 68, cells := 0, slots := 0, locals := 1492 }
def p5_readAll (a0 : Nat) (x1 : Int32) (M : mMem) : Option (Int32 × mMem) := (grp1 64).2.1 a0 x1 M
abbrev rm5_readAll : Room := { frames := 68, cells := 0, slots := 0, locals := 1492 }
def p5_readAny (a0 : Nat) (x1 : Int32) (M : mMem) : Option (Int32 × mMem) := (grp1 64).2.2 a0 x1 M
abbrev rm5_readAny : Room := { frames := 68, cells := 0, slots := 0, locals := 1492 }
abbrev rm5_readLine : Room := { frames := 69, cells := 0, slots := 0, locals := 1514 }
def p5_readLine_J95 (a0 : Nat) (x1 : Int32) (x2 : Int32) (x3 : Int32) (M : mMem) : Option (Int32 × mMem) :=
  (getR M a0 6 8).bind fun v_1 =>
  (p4_addLine v_1 x1 x2 x3 M).bind fun q_2 =>
  some (1, q_2)
def p5_readLine_J67 (a0 : Nat) (x1 : Int32) (u0 : Int32) (M : mMem) : Option (Int32 × mMem) :=
  (getR M a0 6 8).bind fun v_1 =>
  (getI M v_1 5 8).bind fun v_2 =>
  (p5_took a0 20 M).bind fun q_3 =>
  if q_3.1 = 0 then
    p5_readLine_J95 a0 x1 u0 v_2 q_3.2
  else
    (p5_readAny a0 0 q_3.2).bind fun q_4 =>
    if q_4.1 = 0 then
      some (0, q_4.2)
    else
      p5_readLine_J95 a0 x1 u0 v_2 q_4.2
def p5_readLine_J53 (a0 : Nat) (x1 : Int32) (M : mMem) : Option (Int32 × mMem) :=
  if x1 = 19 then
    p5_readLine_J67 a0 x1 0 M
  else
    (getI M a0 6 7).bind fun v_1 =>
    p5_readLine_J67 a0 x1 v_1 M
def p5_readLine_J25 (a0 : Nat) (x1 : Int32) (M : mMem) : Option (Int32 × mMem) :=
  (getI M a0 6 6).bind fun v_1 =>
  (putI M a0 6 6 (v_1 + 1)).bind fun M_2 =>
  if x1 = 19 then
    p5_readLine_J53 a0 x1 M_2
  else
    (p5_tookNumber a0 0 60 M_2).bind fun q_3 =>
    if q_3.1 = 0 then
      some (0, q_3.2)
    else
      p5_readLine_J53 a0 x1 q_3.2
def p5_readLine (a0 : Nat) (M : mMem) : Option (Int32 × mMem) :=
  gd M a0 6 (
    (p5_next a0 M).bind fun v_1 =>
    if v_1 = 17 then
      p5_readLine_J25 a0 v_1 M
    else
      if v_1 = 18 then
        p5_readLine_J25 a0 v_1 M
      else
        if v_1 = 19 then
          p5_readLine_J25 a0 v_1 M
        else
          some (0, M))
abbrev rm6_cell : Room := { frames := 0, cells := 0, slots := 0, locals := 0 }
def p6_cell_J21 (M : mMem) : Option Int32 :=
  some (-1)
def p6_cell_J76 (M : mMem) (u0 : Int32) : Option Int32 :=
  some u0
def p6_cell_J75 (M : mMem) : Option Int32 :=
  p6_cell_J76 M (-1)
def p6_cell_J44 (M : mMem) (a0 : Nat) (x2 : Int32) (u0 : Int32) : Option Int32 :=
  if ((u0 * 5) + x2) < 0 then
    p6_cell_J75 M
  else
    (getR M a0 7 0).bind fun v_1 =>
    (lenA M v_1).bind fun v_2 =>
    if ((u0 * 5) + x2) < v_2 then
      (getR M a0 7 0).bind fun v_3 =>
      (aldI M v_3 20 ((u0 * 5) + x2)).bind fun v_4 =>
      p6_cell_J76 M v_4
    else
      p6_cell_J75 M
def p6_cell (a0 : Nat) (x1 : Int32) (x2 : Int32) (M : mMem) : Option Int32 :=
  gd M a0 7 (
    if x1 < 0 then
      p6_cell_J21 M
    else
      (getI M a0 7 2).bind fun v_1 =>
      if x1 < v_1 then
        if x2 < 0 then
          p6_cell_J21 M
        else
          if x2 < 5 then
            (getI M a0 7 1).bind fun v_2 =>
            if ((v_2 - 1) - x1) < 0 then
              p6_cell_J44 M a0 x2 (((v_2 - 1) - x1) + 60)
            else
              p6_cell_J44 M a0 x2 ((v_2 - 1) - x1)
          else
            p6_cell_J21 M
      else
        p6_cell_J21 M)
abbrev rm6_shareOf : Room := { frames := 1, cells := 0, slots := 0, locals := 24 }
def p6_shareOf_J48 (M : mMem) (rec7 : Nat → Int32 → Int32 → Int32 → Int32 → Option Int32) (a0 : Nat) (x1 : Int32) (x2 : Int32) (x3 : Int32) (x4 : Int32) : Option Int32 :=
  rec7 a0 x1 x2 x3 (x4 + 1)
def p6_shareOf_J46 (M : mMem) (rec7 : Nat → Int32 → Int32 → Int32 → Int32 → Option Int32) (a0 : Nat) (x1 : Int32) (x2 : Int32) (x4 : Int32) (u0 : Int32) (u1 : Int32) : Option Int32 :=
  p6_shareOf_J48 M rec7 a0 x1 x2 (u0 + u1) x4
def p6_shareOf_L7 (M : mMem) (k54 : Int32 → Int32 → Option Int32) : Nat → Nat → Int32 → Int32 → Int32 → Int32 → Option Int32
  | 0, _, _, _, _, _ => none
  | n + 1, a0, x1, x2, x3, x4 =>
    (getI M a0 7 2).bind fun v_1 =>
    if x4 < v_1 then
      (p6_cell a0 x4 3 M).bind fun v_2 =>
      if v_2 = 0 then
        (p6_cell a0 x4 2 M).bind fun v_3 =>
        if v_3 = x1 then
          p6_shareOf_J46 M (p6_shareOf_L7 M k54 n) a0 x1 (x2 + 1) x4 x3 1
        else
          p6_shareOf_J46 M (p6_shareOf_L7 M k54 n) a0 x1 (x2 + 1) x4 x3 0
      else
        p6_shareOf_J48 M (p6_shareOf_L7 M k54 n) a0 x1 x2 x3 x4
    else
      k54 x2 x3
def p6_shareOf_J68 (M : mMem) (u0 : Int32) : Option Int32 :=
  some u0
def p6_shareOf_J54 (M : mMem) (x2 : Int32) (x3 : Int32) : Option Int32 :=
  if 0 < x2 then
    (divI ((100 : Int32) * x3) x2).bind fun v_1 =>
    p6_shareOf_J68 M v_1
  else
    p6_shareOf_J68 M 0
def p6_shareOf (a0 : Nat) (x1 : Int32) (M : mMem) : Option Int32 :=
  gd M a0 7 (
    p6_shareOf_L7 M (p6_shareOf_J54 M) gF a0 x1 0 0 0)
abbrev rm6_rowsTo : Room := { frames := 1, cells := 0, slots := 0, locals := 24 }
def p6_rowsTo_J25 (M : mMem) (rec4 : Nat → Int32 → Int32 → Int32 → Option Int32) (a0 : Nat) (x1 : Int32) (x2 : Int32) (x3 : Int32) : Option Int32 :=
  rec4 a0 x1 x2 (x3 + 1)
def p6_rowsTo_L4 (M : mMem) : Nat → Nat → Int32 → Int32 → Int32 → Option Int32
  | 0, _, _, _, _ => none
  | n + 1, a0, x1, x2, x3 =>
    (getI M a0 7 2).bind fun v_1 =>
    if x3 < v_1 then
      (p6_cell a0 x3 2 M).bind fun v_2 =>
      if v_2 = x1 then
        p6_rowsTo_J25 M (p6_rowsTo_L4 M n) a0 x1 (x2 + 1) x3
      else
        p6_rowsTo_J25 M (p6_rowsTo_L4 M n) a0 x1 x2 x3
    else
      some x2
def p6_rowsTo (a0 : Nat) (x1 : Int32) (M : mMem) : Option Int32 :=
  gd M a0 7 (
    p6_rowsTo_L4 M gF a0 x1 0 0)
abbrev rm6_latestDayTo : Room := { frames := 1, cells := 0, slots := 0, locals := 24 }
def p6_latestDayTo_L2 (M : mMem) : Nat → Nat → Int32 → Int32 → Option Int32
  | 0, _, _, _ => none
  | n + 1, a0, x1, x2 =>
    (getI M a0 7 2).bind fun v_1 =>
    if x2 < v_1 then
      (p6_cell a0 x2 2 M).bind fun v_2 =>
      if v_2 = x1 then
        (p6_cell a0 x2 0 M).bind fun v_3 =>
        some v_3
      else
        (p6_latestDayTo_L2 M n) a0 x1 (x2 + 1)
    else
      some (-1)
def p6_latestDayTo (a0 : Nat) (x1 : Int32) (M : mMem) : Option Int32 :=
  gd M a0 7 (
    p6_latestDayTo_L2 M gF a0 x1 0)
abbrev rm7_init : Room := { frames := 1, cells := 3, slots := 24, locals := 32 }
def p7_init (a0 : Nat) (a1 : Nat) (M : mMem) : Option mMem :=
  gd M a0 8 (
    (newC M 20 8).bind fun n_1 =>
    (putR n_1.2 a0 8 1 n_1.1).bind fun M_2 =>
    (newC M_2 20 8).bind fun n_3 =>
    (putR n_3.2 a0 8 2 n_3.1).bind fun M_4 =>
    (newC M_4 20 8).bind fun n_5 =>
    (putR n_5.2 a0 8 3 n_5.1).bind fun M_6 =>
    (putI M_6 a0 8 4 0).bind fun M_7 =>
    (putI M_7 a0 8 5 0).bind fun M_8 =>
    (putR M_8 a0 8 0 a1).bind fun M_9 =>
    some M_9)
abbrev rm7_isSingle : Room := { frames := 1, cells := 0, slots := 0, locals := 21 }
def p7_isSingle_J46 (M : mMem) (u0 : Int32) : Option Int32 :=
  (bZ u0).bind fun z => some z
def p7_isSingle_J45 (M : mMem) : Option Int32 :=
  p7_isSingle_J46 M 0
def p7_isSingle (a0 : Nat) (x1 : Int32) (x2 : Int32) (M : mMem) : Option Int32 :=
  gd M a0 8 (
    (getR M a0 8 0).bind fun v_1 =>
    (p2_has v_1 x1 M).bind fun v_2 =>
    if v_2 = 0 then
      p7_isSingle_J45 M
    else
      (getR M a0 8 0).bind fun v_3 =>
      (p2_at v_3 x1 M).bind fun v_4 =>
      (getI M v_4 9 2).bind fun v_5 =>
      if v_5 = x2 then
        (getR M a0 8 0).bind fun v_6 =>
        (p2_at v_6 x1 M).bind fun v_7 =>
        (getI M v_7 9 4).bind fun v_8 =>
        if v_8 = (-1) then
          p7_isSingle_J46 M 1
        else
          p7_isSingle_J45 M
      else
        p7_isSingle_J45 M)
def rmG2 (d : Nat) : Room := { frames := d + 3, cells := 0, slots := 0, locals := 24 * d + 65 }
def p7_matchFrom_J69 (M : mMem) : Option mMem :=
  some M
def p7_matchFrom_J41 (a0 : Nat) (x2 : Int32) (x3 : Int32) (M : mMem) : Option mMem :=
  (putI M a0 8 4 x2).bind fun M_1 =>
  (putI M_1 a0 8 5 x3).bind fun M_2 =>
  (getR M_2 a0 8 1).bind fun v_3 =>
  (getR M_2 a0 8 2).bind fun v_4 =>
  (getR M_2 a0 8 2).bind fun v_5 =>
  (lenA M_2 v_5).bind fun v_6 =>
  (cpyI M_2 v_3 0 v_4 0 v_6).bind fun M_7 =>
  p7_matchFrom_J69 M_7
def p7_matchFrom_J17 (a0 : Nat) (x2 : Int32) (x3 : Int32) (M : mMem) : Option mMem :=
  (getI M a0 8 4).bind fun v_1 =>
  if v_1 < x2 then
    p7_matchFrom_J41 a0 x2 x3 M
  else
    (getI M a0 8 4).bind fun v_2 =>
    if x2 = v_2 then
      (getI M a0 8 5).bind fun v_3 =>
      if x3 < v_3 then
        p7_matchFrom_J41 a0 x2 x3 M
      else
        p7_matchFrom_J69 M
    else
      p7_matchFrom_J69 M
def p7_matchFrom_J182 (f_7_matchFrom : Nat → Int32 → Int32 → Int32 → mMem → Option mMem) (a0 : Nat) (x1 : Int32) (x2 : Int32) (x3 : Int32) (M : mMem) : Option mMem :=
  (f_7_matchFrom a0 (x1 + 1) x2 x3 M).bind fun q_1 =>
  some q_1
def p7_matchFrom_J176 (rec82 : Nat → Int32 → Int32 → Int32 → Int32 → mMem → Option mMem) (a0 : Nat) (x1 : Int32) (x2 : Int32) (x3 : Int32) (x4 : Int32) (M : mMem) : Option mMem :=
  rec82 a0 x1 x2 x3 (x4 + 1) M
def p7_matchFrom_L82 (f_7_matchFrom : Nat → Int32 → Int32 → Int32 → mMem → Option mMem) (k182 : Nat → Int32 → Int32 → Int32 → mMem → Option mMem) : Nat → Nat → Int32 → Int32 → Int32 → Int32 → mMem → Option mMem
  | 0, _, _, _, _, _, _ => none
  | n + 1, a0, x1, x2, x3, x4, M =>
    if x4 < 8 then
      (p7_isSingle a0 x4 1 M).bind fun v_1 =>
      if v_1 = 0 then
        p7_matchFrom_J176 (p7_matchFrom_L82 f_7_matchFrom k182 n) a0 x1 x2 x3 x4 M
      else
        (getR M a0 8 1).bind fun v_2 =>
        (aldI M v_2 20 x4).bind fun v_3 =>
        if v_3 = (-1) then
          (getR M a0 8 0).bind fun v_4 =>
          (p2_mayWed v_4 x1 x4 M).bind fun v_5 =>
          if v_5 = 0 then
            p7_matchFrom_J176 (p7_matchFrom_L82 f_7_matchFrom k182 n) a0 x1 x2 x3 x4 M
          else
            (getR M a0 8 1).bind fun v_6 =>
            (astI M v_6 x1 x4).bind fun M_7 =>
            (getR M_7 a0 8 1).bind fun v_8 =>
            (astI M_7 v_8 x4 x1).bind fun M_9 =>
            (getR M_9 a0 8 0).bind fun v_10 =>
            (p2_gapOf v_10 x1 x4 M_9).bind fun v_11 =>
            (f_7_matchFrom a0 (x1 + 1) (x2 + 1) (x3 + v_11) M_9).bind fun q_12 =>
            (getR q_12 a0 8 1).bind fun v_13 =>
            (astI q_12 v_13 x1 (-1)).bind fun M_14 =>
            (getR M_14 a0 8 1).bind fun v_15 =>
            (astI M_14 v_15 x4 (-1)).bind fun M_16 =>
            p7_matchFrom_J176 (p7_matchFrom_L82 f_7_matchFrom k182 n) a0 x1 x2 x3 x4 M_16
        else
          p7_matchFrom_J176 (p7_matchFrom_L82 f_7_matchFrom k182 n) a0 x1 x2 x3 x4 M
    else
      k182 a0 x1 x2 x3 M
def p7_matchFrom_B (f_7_matchFrom : Nat → Int32 → Int32 → Int32 → mMem → Option mMem) (a0 : Nat) (x1 : Int32) (x2 : Int32) (x3 : Int32) (M : mMem) : Option mMem :=
  gd M a0 8 (
    if x1 < 8 then
      (getR M a0 8 0).bind fun v_1 =>
      (getI M v_1 3 4).bind fun v_2 =>
      if x1 < v_2 then
        (p7_isSingle a0 x1 0 M).bind fun v_3 =>
        if v_3 = 0 then
          p7_matchFrom_J182 f_7_matchFrom a0 x1 x2 x3 M
        else
          p7_matchFrom_L82 f_7_matchFrom (p7_matchFrom_J182 f_7_matchFrom) gF a0 x1 x2 x3 0 M
      else
        p7_matchFrom_J17 a0 x2 x3 M
    else
      p7_matchFrom_J17 a0 x2 x3 M)
def grp2 : Nat → (Nat → Int32 → Int32 → Int32 → mMem → Option mMem)
  | 0 => (fun _ _ _ _ _ => none)
  | d + 1 => (fun a0 x1 x2 x3 M => p7_matchFrom_B (grp2 d) a0 x1 x2 x3 M)
def p7_matchFrom (a0 : Nat) (x1 : Int32) (x2 : Int32) (x3 : Int32) (M : mMem) : Option mMem := (grp2 64) a0 x1 x2 x3 M
abbrev rm7_matchFrom : Room := { frames := 67, cells := 0, slots := 0, locals := 1601 }
abbrev rm7_bestMatching : Room := { frames := 68, cells := 0, slots := 0, locals := 1625 }
def p7_bestMatching (a0 : Nat) (M : mMem) : Option mMem :=
  gd M a0 8 (
    (getR M a0 8 1).bind fun v_1 =>
    (pJ7_fill v_1 (-1) M).bind fun q_2 =>
    (getR q_2 a0 8 2).bind fun v_3 =>
    (pJ7_fill v_3 (-1) q_2).bind fun q_4 =>
    (putI q_4 a0 8 4 0).bind fun M_5 =>
    (putI M_5 a0 8 5 0).bind fun M_6 =>
    (p7_matchFrom a0 0 0 0 M_6).bind fun q_7 =>
    some q_7)
abbrev rm7_bestOf : Room := { frames := 0, cells := 0, slots := 0, locals := 0 }
def p7_bestOf_J23 (M : mMem) (u0 : Int32) : Option Int32 :=
  some u0
def p7_bestOf_J22 (M : mMem) : Option Int32 :=
  p7_bestOf_J23 M (-1)
def p7_bestOf (a0 : Nat) (x1 : Int32) (M : mMem) : Option Int32 :=
  gd M a0 8 (
    if x1 < 0 then
      p7_bestOf_J22 M
    else
      (getR M a0 8 2).bind fun v_1 =>
      (lenA M v_1).bind fun v_2 =>
      if x1 < v_2 then
        (getR M a0 8 2).bind fun v_3 =>
        (aldI M v_3 20 x1).bind fun v_4 =>
        p7_bestOf_J23 M v_4
      else
        p7_bestOf_J22 M)
abbrev rm7_nearestNotAsked : Room := { frames := 3, cells := 0, slots := 0, locals := 65 }
def p7_nearestNotAsked_J91 (M : mMem) (x2 : Int32) : Option Int32 :=
  some x2
def p7_nearestNotAsked_J85 (M : mMem) (rec4 : Nat → Int32 → Int32 → Int32 → Option Int32) (a0 : Nat) (x1 : Int32) (x2 : Int32) (x3 : Int32) : Option Int32 :=
  rec4 a0 x1 x2 (x3 + 1)
def p7_nearestNotAsked_J83 (M : mMem) (rec4 : Nat → Int32 → Int32 → Int32 → Option Int32) (a0 : Nat) (x1 : Int32) (x3 : Int32) : Option Int32 :=
  p7_nearestNotAsked_J85 M rec4 a0 x1 x3 x3
def p7_nearestNotAsked_L4 (M : mMem) : Nat → Nat → Int32 → Int32 → Int32 → Option Int32
  | 0, _, _, _, _ => none
  | n + 1, a0, x1, x2, x3 =>
    if x3 < 8 then
      if x1 < 0 then
        p7_nearestNotAsked_J91 M x2
      else
        (getR M a0 8 3).bind fun v_1 =>
        (lenA M v_1).bind fun v_2 =>
        if x1 < v_2 then
          (p7_isSingle a0 x3 1 M).bind fun v_3 =>
          if v_3 = 0 then
            p7_nearestNotAsked_J85 M (p7_nearestNotAsked_L4 M n) a0 x1 x2 x3
          else
            (getR M a0 8 0).bind fun v_4 =>
            (p2_mayWed v_4 x1 x3 M).bind fun v_5 =>
            if v_5 = 0 then
              p7_nearestNotAsked_J85 M (p7_nearestNotAsked_L4 M n) a0 x1 x2 x3
            else
              (getR M a0 8 3).bind fun v_6 =>
              (aldI M v_6 20 x1).bind fun v_7 =>
              if ((v_7 >>> (x3 &&& 31)) &&& 1) = 0 then
                if x2 = (-1) then
                  p7_nearestNotAsked_J83 M (p7_nearestNotAsked_L4 M n) a0 x1 x3
                else
                  (getR M a0 8 0).bind fun v_8 =>
                  (p2_gapOf v_8 x1 x3 M).bind fun v_9 =>
                  (getR M a0 8 0).bind fun v_10 =>
                  (p2_gapOf v_10 x1 x2 M).bind fun v_11 =>
                  if v_9 < v_11 then
                    p7_nearestNotAsked_J83 M (p7_nearestNotAsked_L4 M n) a0 x1 x3
                  else
                    p7_nearestNotAsked_J85 M (p7_nearestNotAsked_L4 M n) a0 x1 x2 x3
              else
                p7_nearestNotAsked_J85 M (p7_nearestNotAsked_L4 M n) a0 x1 x2 x3
        else
          p7_nearestNotAsked_J91 M x2
    else
      p7_nearestNotAsked_J91 M x2
def p7_nearestNotAsked (a0 : Nat) (x1 : Int32) (M : mMem) : Option Int32 :=
  gd M a0 8 (
    p7_nearestNotAsked_L4 M gF a0 x1 (-1) 0)
abbrev rm7_isNearer : Room := { frames := 2, cells := 0, slots := 0, locals := 55 }
def p7_isNearer_J46 (M : mMem) (u0 : Int32) : Option Int32 :=
  (bZ u0).bind fun z => some z
def p7_isNearer_J41 (M : mMem) : Option Int32 :=
  p7_isNearer_J46 M 1
def p7_isNearer_J45 (M : mMem) : Option Int32 :=
  p7_isNearer_J46 M 0
def p7_isNearer (a0 : Nat) (x1 : Int32) (x2 : Int32) (x3 : Int32) (M : mMem) : Option Int32 :=
  gd M a0 8 (
    (getR M a0 8 0).bind fun v_1 =>
    (p2_gapOf v_1 x1 x2 M).bind fun v_2 =>
    (getR M a0 8 0).bind fun v_3 =>
    (p2_gapOf v_3 x1 x3 M).bind fun v_4 =>
    if v_2 < v_4 then
      p7_isNearer_J41 M
    else
      if v_2 = v_4 then
        if x2 < x3 then
          p7_isNearer_J41 M
        else
          p7_isNearer_J45 M
      else
        p7_isNearer_J45 M)
abbrev rm7_askOne : Room := { frames := 3, cells := 0, slots := 0, locals := 80 }
def p7_askOne_J20 (M : mMem) : Option mMem :=
  some M
def p7_askOne_J89 (M : mMem) : Option mMem :=
  some M
def p7_askOne_J55 (a0 : Nat) (x1 : Int32) (x2 : Int32) (x3 : Int32) (M : mMem) : Option mMem :=
  (getR M a0 8 1).bind fun v_1 =>
  (astI M v_1 x2 x1).bind fun M_2 =>
  (getR M_2 a0 8 1).bind fun v_3 =>
  (astI M_2 v_3 x1 x2).bind fun M_4 =>
  if x3 < 0 then
    p7_askOne_J89 M_4
  else
    (getR M_4 a0 8 1).bind fun v_5 =>
    (lenA M_4 v_5).bind fun v_6 =>
    if x3 < v_6 then
      (getR M_4 a0 8 1).bind fun v_7 =>
      (astI M_4 v_7 x3 (-1)).bind fun M_8 =>
      p7_askOne_J89 M_8
    else
      p7_askOne_J89 M_4
def p7_askOne (a0 : Nat) (x1 : Int32) (x2 : Int32) (M : mMem) : Option mMem :=
  gd M a0 8 (
    if x1 < 0 then
      p7_askOne_J20 M
    else
      if x1 < 8 then
        if x2 < 0 then
          p7_askOne_J20 M
        else
          if x2 < 8 then
            (getR M a0 8 3).bind fun v_1 =>
            (aldI M v_1 20 x1).bind fun v_2 =>
            (astI M v_1 x1 (v_2 ||| ((1 : Int32) <<< (x2 &&& 31)))).bind fun M_3 =>
            (getR M_3 a0 8 1).bind fun v_4 =>
            (aldI M_3 v_4 20 x2).bind fun v_5 =>
            if v_5 = (-1) then
              p7_askOne_J55 a0 x1 x2 v_5 M_3
            else
              (p7_isNearer a0 x2 x1 v_5 M_3).bind fun v_6 =>
              if v_6 = 0 then
                p7_askOne_J89 M_3
              else
                p7_askOne_J55 a0 x1 x2 v_5 M_3
          else
            p7_askOne_J20 M
      else
        p7_askOne_J20 M)
abbrev rm7_someoneAsks : Room := { frames := 4, cells := 0, slots := 0, locals := 103 }
def p7_someoneAsks_J46 (rec2 : Nat → Int32 → mMem → Option (Int32 × mMem)) (a0 : Nat) (x1 : Int32) (M : mMem) : Option (Int32 × mMem) :=
  rec2 a0 (x1 + 1) M
def p7_someoneAsks_L2 : Nat → Nat → Int32 → mMem → Option (Int32 × mMem)
  | 0, _, _, _ => none
  | n + 1, a0, x1, M =>
    if x1 < 8 then
      (p7_isSingle a0 x1 0 M).bind fun v_1 =>
      if v_1 = 0 then
        p7_someoneAsks_J46 (p7_someoneAsks_L2 n) a0 x1 M
      else
        (getR M a0 8 1).bind fun v_2 =>
        (aldI M v_2 20 x1).bind fun v_3 =>
        if v_3 = (-1) then
          (p7_nearestNotAsked a0 x1 M).bind fun v_4 =>
          if v_4 = (-1) then
            p7_someoneAsks_J46 (p7_someoneAsks_L2 n) a0 x1 M
          else
            (p7_askOne a0 x1 v_4 M).bind fun q_5 =>
            some (1, q_5)
        else
          p7_someoneAsks_J46 (p7_someoneAsks_L2 n) a0 x1 M
    else
      some (0, M)
def p7_someoneAsks (a0 : Nat) (M : mMem) : Option (Int32 × mMem) :=
  gd M a0 8 (
    p7_someoneAsks_L2 gF a0 0 M)
abbrev rm7_stableOf : Room := { frames := 5, cells := 0, slots := 0, locals := 125 }
def p7_stableOf_L18 (k31 : Nat → Int32 → mMem → Option (Int32 × mMem)) (k40 : Nat → Int32 → mMem → Option (Int32 × mMem)) : Nat → Nat → Int32 → Int32 → mMem → Option (Int32 × mMem)
  | 0, _, _, _, _ => none
  | n + 1, a0, x1, x2, M =>
    if x2 < 64 then
      (p7_someoneAsks a0 M).bind fun q_1 =>
      if q_1.1 = 0 then
        k31 a0 x1 q_1.2
      else
        (p7_stableOf_L18 k31 k40 n) a0 x1 (x2 + 1) q_1.2
    else
      k40 a0 x1 M
def p7_stableOf_J63 (u0 : Int32) (M : mMem) : Option (Int32 × mMem) :=
  some (u0, M)
def p7_stableOf_J62 (M : mMem) : Option (Int32 × mMem) :=
  p7_stableOf_J63 (-1) M
def p7_stableOf_J40 (a0 : Nat) (x1 : Int32) (M : mMem) : Option (Int32 × mMem) :=
  if x1 < 0 then
    p7_stableOf_J62 M
  else
    (getR M a0 8 1).bind fun v_1 =>
    (lenA M v_1).bind fun v_2 =>
    if x1 < v_2 then
      (getR M a0 8 1).bind fun v_3 =>
      (aldI M v_3 20 x1).bind fun v_4 =>
      p7_stableOf_J63 v_4 M
    else
      p7_stableOf_J62 M
def p7_stableOf_J31 (a0 : Nat) (x1 : Int32) (M : mMem) : Option (Int32 × mMem) :=
  p7_stableOf_J40 a0 x1 M
def p7_stableOf (a0 : Nat) (x1 : Int32) (M : mMem) : Option (Int32 × mMem) :=
  gd M a0 8 (
    (getR M a0 8 1).bind fun v_1 =>
    (pJ7_fill v_1 (-1) M).bind fun q_2 =>
    (getR q_2 a0 8 3).bind fun v_3 =>
    (pJ7_fill v_3 0 q_2).bind fun q_4 =>
    p7_stableOf_L18 p7_stableOf_J31 p7_stableOf_J40 gF a0 x1 0 q_4)
