abbrev rm11_mustBe : Room := { frames := 6, cells := 1, slots := 6, locals := 90 }
def p11_mustBe (a0 : Nat) (x1 : Int32) (M : mMem) : Option ((Nat × mMem) ⊕ Unit) :=
  gd M a0 11 (
    (getR M a0 11 3).bind fun v_1 =>
    (p2_has v_1 x1 M).bind fun v_2 =>
    if v_2 = 0 then
      thr M 2
    else
      xr (some ()))
abbrev rm11_mustLie : Room := { frames := 6, cells := 1, slots := 6, locals := 90 }
def p11_mustLie_J10 (M : mMem) : Option ((Nat × mMem) ⊕ Unit) :=
  thr M 0
def p11_mustLie (x0 : Int32) (x1 : Int32) (x2 : Int32) (M : mMem) : Option ((Nat × mMem) ⊕ Unit) :=
  if x0 < x1 then
    p11_mustLie_J10 M
  else
    if x2 < x0 then
      p11_mustLie_J10 M
    else
      xr (some ())
abbrev rm11_ahead : Room := { frames := 7, cells := 2, slots := 12, locals := 131 }
def p11_ahead (a0 : Nat) (x1 : Int32) (x2 : Int32) (x3 : Int32) (M : mMem) : Option ((Nat × mMem) ⊕ (Int32 × mMem)) :=
  gd M a0 11 (
    xb (p11_mustBe a0 x1 M) fun v_1 =>
    xb (p11_mustLie x2 0 100 M) fun v_2 =>
    (getR M a0 11 14).bind fun v_3 =>
    (p1_ageAhead v_3 x1 x2 x3 M).bind fun q_4 =>
    xr (some (q_4.1, q_4.2)))
abbrev rm11_mustBeSightings : Room := { frames := 6, cells := 1, slots := 6, locals := 90 }
def p11_mustBeSightings_J59 (M : mMem) (rec20 : Nat → Int32 → Int32 → Int32 → Option ((Nat × mMem) ⊕ Unit)) (a0 : Nat) (x1 : Int32) (x3 : Int32) (u0 : Int32) : Option ((Nat × mMem) ⊕ Unit) :=
  rec20 a0 x1 u0 (x3 + 1)
def p11_mustBeSightings_J58 (M : mMem) (rec20 : Nat → Int32 → Int32 → Int32 → Option ((Nat × mMem) ⊕ Unit)) (a0 : Nat) (x1 : Int32) (x3 : Int32) : Option ((Nat × mMem) ⊕ Unit) :=
  p11_mustBeSightings_J59 M rec20 a0 x1 x3 0
def p11_mustBeSightings_L20 (M : mMem) (k66 : Int32 → Option ((Nat × mMem) ⊕ Unit)) : Nat → Nat → Int32 → Int32 → Int32 → Option ((Nat × mMem) ⊕ Unit)
  | 0, _, _, _, _ => none
  | n + 1, a0, x1, x2, x3 =>
    if x3 < x1 then
      (getR M a0 11 0).bind fun v_1 =>
      (lenA M v_1).bind fun v_2 =>
      if x3 < v_2 then
        if x2 = 0 then
          p11_mustBeSightings_J58 M (p11_mustBeSightings_L20 M k66 n) a0 x1 x3
        else
          (getR M a0 11 0).bind fun v_3 =>
          (aldI M v_3 20 x3).bind fun v_4 =>
          (getR M a0 11 3).bind fun v_5 =>
          (getI M v_5 3 5).bind fun v_6 =>
          if v_4 < v_6 then
            p11_mustBeSightings_J59 M (p11_mustBeSightings_L20 M k66 n) a0 x1 x3 1
          else
            p11_mustBeSightings_J58 M (p11_mustBeSightings_L20 M k66 n) a0 x1 x3
      else
        k66 x2
    else
      k66 x2
def p11_mustBeSightings_J66 (M : mMem) (x2 : Int32) : Option ((Nat × mMem) ⊕ Unit) :=
  if x2 = 0 then
    thr M 0
  else
    xr (some ())
def p11_mustBeSightings_J17 (M : mMem) (a0 : Nat) (x1 : Int32) (u0 : Int32) : Option ((Nat × mMem) ⊕ Unit) :=
  p11_mustBeSightings_L20 M (p11_mustBeSightings_J66 M) gF a0 x1 u0 0
def p11_mustBeSightings_J16 (M : mMem) (a0 : Nat) (x1 : Int32) : Option ((Nat × mMem) ⊕ Unit) :=
  p11_mustBeSightings_J17 M a0 x1 0
def p11_mustBeSightings (a0 : Nat) (x1 : Int32) (M : mMem) : Option ((Nat × mMem) ⊕ Unit) :=
  gd M a0 11 (
    if 40 < x1 then
      p11_mustBeSightings_J16 M a0 x1
    else
      (remI x1 2).bind fun v_1 =>
      if v_1 = 0 then
        p11_mustBeSightings_J17 M a0 x1 1
      else
        p11_mustBeSightings_J16 M a0 x1)
abbrev rm11_ask : Room := { frames := 7, cells := 2, slots := 12, locals := 185 }
def p11_ask (a0 : Nat) (x1 : Int32) (M : mMem) : Option ((Nat × mMem) ⊕ (Int32 × mMem)) :=
  gd M a0 11 (
    (p11_usedTape a0 M).bind fun q_1 =>
    xb (p11_mustBe a0 x1 q_1.2) fun v_2 =>
    xb (p11_mustBeSightings a0 q_1.1 q_1.2) fun v_3 =>
    (getR q_1.2 a0 11 15).bind fun v_4 =>
    (getR q_1.2 a0 11 0).bind fun v_5 =>
    (p0_bestToAsk v_4 x1 v_5 q_1.1 q_1.2).bind fun q_6 =>
    xr (some (q_6.1, q_6.2)))
abbrev rm11_mustHold : Room := { frames := 6, cells := 1, slots := 6, locals := 90 }
def p11_mustHold (x0 : Int32) (M : mMem) : Option ((Nat × mMem) ⊕ Unit) :=
  if x0 = 0 then
    thr M 1
  else
    xr (some ())
abbrev rm11_bear : Room := { frames := 7, cells := 2, slots := 12, locals := 113 }
def p11_bear_J57 (a0 : Nat) (x1 : Int32) (b0 : Nat) (u1 : Int32) (M : mMem) : Option ((Nat × mMem) ⊕ (Int32 × mMem)) :=
  (getR M a0 11 3).bind fun v_1 =>
  (getI M v_1 3 5).bind fun v_2 =>
  (divI v_2 2).bind fun v_3 =>
  (p2_add b0 u1 v_3 x1 M).bind fun q_4 =>
  (getR q_4.2 a0 11 3).bind fun v_5 =>
  (p2_setGoverns v_5 x1 q_4.1 1 q_4.2).bind fun q_6 =>
  xr (some (q_4.1, q_6))
def p11_bear_J37 (a0 : Nat) (x1 : Int32) (x2 : Int32) (u0 : Int32) (M : mMem) : Option ((Nat × mMem) ⊕ (Int32 × mMem)) :=
  xb (p11_mustHold u0 M) fun v_1 =>
  (p11_remember a0 M).bind fun q_2 =>
  (getR q_2 a0 11 3).bind fun v_3 =>
  if x2 = 0 then
    p11_bear_J57 a0 x1 v_3 0 q_2
  else
    p11_bear_J57 a0 x1 v_3 1 q_2
def p11_bear_J36 (a0 : Nat) (x1 : Int32) (x2 : Int32) (M : mMem) : Option ((Nat × mMem) ⊕ (Int32 × mMem)) :=
  p11_bear_J37 a0 x1 x2 0 M
def p11_bear (a0 : Nat) (x1 : Int32) (x2 : Int32) (M : mMem) : Option ((Nat × mMem) ⊕ (Int32 × mMem)) :=
  gd M a0 11 (
    xb (p11_mustBe a0 x1 M) fun v_1 =>
    (getR M a0 11 3).bind fun v_2 =>
    (p2_at v_2 x1 M).bind fun v_3 =>
    (getI M v_3 9 2).bind fun v_4 =>
    if v_4 = 1 then
      (getR M a0 11 3).bind fun v_5 =>
      (getI M v_5 3 4).bind fun v_6 =>
      if v_6 < 8 then
        p11_bear_J37 a0 x1 x2 1 M
      else
        p11_bear_J36 a0 x1 x2 M
    else
      p11_bear_J36 a0 x1 x2 M)
abbrev rm11_branch : Room := { frames := 7, cells := 1, slots := 6, locals := 111 }
def p11_branch (a0 : Nat) (x1 : Int32) (M : mMem) : Option ((Nat × mMem) ⊕ Int32) :=
  gd M a0 11 (
    xb (p11_mustBe a0 x1 M) fun v_1 =>
    (getR M a0 11 17).bind fun v_2 =>
    (p10_branchOf v_2 x1 M).bind fun v_3 =>
    xr (some v_3))
abbrev rm11_can : Room := { frames := 7, cells := 2, slots := 12, locals := 155 }
def p11_can (a0 : Nat) (x1 : Int32) (x2 : Int32) (M : mMem) : Option ((Nat × mMem) ⊕ (Int32 × mMem)) :=
  gd M a0 11 (
    xb (p11_mustBe a0 x1 M) fun v_1 =>
    xb (p11_mustLie x2 0 20 M) fun v_2 =>
    (getR M a0 11 15).bind fun v_3 =>
    (p0_within v_3 x1 x2 M).bind fun q_4 =>
    xr (some (q_4.1, q_4.2)))
abbrev rm11_cousins : Room := { frames := 7, cells := 1, slots := 6, locals := 111 }
def p11_cousins (a0 : Nat) (x1 : Int32) (M : mMem) : Option ((Nat × mMem) ⊕ Int32) :=
  gd M a0 11 (
    xb (p11_mustBe a0 x1 M) fun v_1 =>
    (getR M a0 11 17).bind fun v_2 =>
    (p10_cousinsOf v_2 x1 M).bind fun v_3 =>
    xr (some v_3))
abbrev rm11_days : Room := { frames := 7, cells := 1, slots := 6, locals := 133 }
def p11_days (a0 : Nat) (x1 : Int32) (M : mMem) : Option ((Nat × mMem) ⊕ (Int32 × mMem)) :=
  gd M a0 11 (
    xb (p11_mustLie x1 1 100 M) fun v_1 =>
    (p11_remember a0 M).bind fun q_2 =>
    (getR q_2 a0 11 14).bind fun v_3 =>
    (getR q_2 a0 11 3).bind fun v_4 =>
    (p1_pass v_3 v_4 x1 q_2).bind fun q_5 =>
    xr (some (q_5.1, q_5.2)))
abbrev rm11_family : Room := { frames := 11, cells := 2, slots := 12, locals := 356 }
def p11_family (a0 : Nat) (M : mMem) : Option ((Nat × mMem) ⊕ (Int32 × mMem)) :=
  gd M a0 11 (
    (getR M a0 11 4).bind fun v_1 =>
    (getR M a0 11 3).bind fun v_2 =>
    (p2_take v_1 v_2 M).bind fun q_3 =>
    (getR q_3 a0 11 7).bind fun v_4 =>
    (getR q_3 a0 11 0).bind fun v_5 =>
    (p11_usedTape a0 q_3).bind fun q_6 =>
    (p3_readText v_4 v_5 q_6.1 q_6.2).bind fun q_7 =>
    (putI q_7.2 a0 11 2 q_7.1).bind fun M_8 =>
    (getI M_8 a0 11 2).bind fun v_9 =>
    if v_9 = (-1) then
      (getR M_8 a0 11 3).bind fun v_10 =>
      (getI M_8 v_10 3 10).bind fun v_11 =>
      if v_11 < 12 then
        (getR M_8 a0 11 4).bind fun v_12 =>
        (getI M_8 v_12 3 10).bind fun v_13 =>
        (putI M_8 v_12 3 10 (v_13 + 1)).bind fun M_14 =>
        (getR M_14 a0 11 3).bind fun v_15 =>
        (getR M_14 a0 11 4).bind fun v_16 =>
        (p2_take v_15 v_16 M_14).bind fun q_17 =>
        (putI q_17 a0 11 10 0).bind fun M_18 =>
        (getR M_18 a0 11 3).bind fun v_19 =>
        (getI M_18 v_19 3 10).bind fun v_20 =>
        xr (some (v_20, M_18))
      else
        thr M_8 3
    else
      thr M_8 0)
abbrev rm11_fewest : Room := { frames := 7, cells := 2, slots := 12, locals := 153 }
def p11_fewest (a0 : Nat) (x1 : Int32) (x2 : Int32) (M : mMem) : Option ((Nat × mMem) ⊕ (Int32 × mMem)) :=
  gd M a0 11 (
    xb (p11_mustBe a0 x1 M) fun v_1 =>
    (getR M a0 11 3).bind fun v_2 =>
    (getI M v_2 3 5).bind fun v_3 =>
    xb (p11_mustLie x2 0 (v_3 - 1) M) fun v_4 =>
    (getR M a0 11 15).bind fun v_5 =>
    (p0_stepsTo v_5 x1 x2 M).bind fun q_6 =>
    xr (some (q_6.1, q_6.2)))
abbrev rm11_first : Room := { frames := 7, cells := 2, slots := 12, locals := 153 }
def p11_first (a0 : Nat) (x1 : Int32) (x2 : Int32) (M : mMem) : Option ((Nat × mMem) ⊕ (Int32 × mMem)) :=
  gd M a0 11 (
    xb (p11_mustBe a0 x1 M) fun v_1 =>
    (getR M a0 11 3).bind fun v_2 =>
    (getI M v_2 3 5).bind fun v_3 =>
    xb (p11_mustLie x2 0 (v_3 - 1) M) fun v_4 =>
    (getR M a0 11 15).bind fun v_5 =>
    (p0_firstTo v_5 x1 x2 M).bind fun q_6 =>
    xr (some (q_6.1, q_6.2)))
abbrev rm11_mustBeTwo : Room := { frames := 7, cells := 3, slots := 18, locals := 111 }
def p11_mustBeTwo (a0 : Nat) (x1 : Int32) (x2 : Int32) (M : mMem) : Option ((Nat × mMem) ⊕ Unit) :=
  gd M a0 11 (
    xb (p11_mustBe a0 x1 M) fun v_1 =>
    xb (p11_mustBe a0 x2 M) fun v_2 =>
    if x1 = x2 then
      thr M 0
    else
      xr (some ()))
abbrev rm11_gap : Room := { frames := 8, cells := 3, slots := 18, locals := 133 }
def p11_gap (a0 : Nat) (x1 : Int32) (x2 : Int32) (M : mMem) : Option ((Nat × mMem) ⊕ Int32) :=
  gd M a0 11 (
    xb (p11_mustBeTwo a0 x1 x2 M) fun v_1 =>
    (getR M a0 11 3).bind fun v_2 =>
    (p2_gapOf v_2 x1 x2 M).bind fun v_3 =>
    xr (some v_3))
abbrev rm11_govern : Room := { frames := 8, cells := 3, slots := 18, locals := 133 }
def p11_govern_J42 (u0 : Int32) (M : mMem) : Option ((Nat × mMem) ⊕ (Int32 × mMem)) :=
  xr ((bZ u0).bind fun z => some (z, M))
def p11_govern (a0 : Nat) (x1 : Int32) (x2 : Int32) (x3 : Int32) (M : mMem) : Option ((Nat × mMem) ⊕ (Int32 × mMem)) :=
  gd M a0 11 (
    xb (p11_mustBeTwo a0 x1 x2 M) fun v_1 =>
    (p11_remember a0 M).bind fun q_2 =>
    (getR q_2 a0 11 3).bind fun v_3 =>
    (p2_governs v_3 x1 x2 q_2).bind fun v_4 =>
    (getR q_2 a0 11 3).bind fun v_5 =>
    (p2_setGoverns v_5 x1 x2 x3 q_2).bind fun q_6 =>
    if v_4 = x3 then
      p11_govern_J42 0 q_6
    else
      p11_govern_J42 1 q_6)
abbrev rm11_harsh : Room := { frames := 7, cells := 1, slots := 6, locals := 111 }
def p11_harsh (a0 : Nat) (x1 : Int32) (M : mMem) : Option ((Nat × mMem) ⊕ (Int32 × mMem)) :=
  gd M a0 11 (
    xb (p11_mustBe a0 x1 M) fun v_1 =>
    (getR M a0 11 15).bind fun v_2 =>
    (p0_heaviest v_2 x1 0 M).bind fun q_3 =>
    xr (some (q_3.1, q_3.2)))
abbrev rm11_kin : Room := { frames := 8, cells := 3, slots := 18, locals := 133 }
def p11_kin (a0 : Nat) (x1 : Int32) (x2 : Int32) (M : mMem) : Option ((Nat × mMem) ⊕ Int32) :=
  gd M a0 11 (
    xb (p11_mustBeTwo a0 x1 x2 M) fun v_1 =>
    (getR M a0 11 17).bind fun v_2 =>
    (p10_stepsBetween v_2 x1 x2 M).bind fun v_3 =>
    xr (some v_3))
abbrev rm11_kind : Room := { frames := 7, cells := 1, slots := 6, locals := 111 }
def p11_kind (a0 : Nat) (x1 : Int32) (M : mMem) : Option ((Nat × mMem) ⊕ (Int32 × mMem)) :=
  gd M a0 11 (
    xb (p11_mustBe a0 x1 M) fun v_1 =>
    (getR M a0 11 15).bind fun v_2 =>
    (p0_heaviest v_2 x1 1 M).bind fun q_3 =>
    xr (some (q_3.1, q_3.2)))
abbrev rm11_law : Room := { frames := 71, cells := 1, slots := 6, locals := 1560 }
def p11_law (a0 : Nat) (M : mMem) : Option ((Nat × mMem) ⊕ (Int32 × mMem)) :=
  gd M a0 11 (
    (getR M a0 11 6).bind fun v_1 =>
    (p4_begin v_1 M).bind fun q_2 =>
    (getR q_2 a0 11 8).bind fun v_3 =>
    (getR q_2 a0 11 0).bind fun v_4 =>
    (p11_usedTape a0 q_2).bind fun q_5 =>
    (p5_readText v_3 v_4 q_5.1 q_5.2).bind fun q_6 =>
    (putI q_6.2 a0 11 2 q_6.1).bind fun M_7 =>
    (getI M_7 a0 11 2).bind fun v_8 =>
    if v_8 = (-1) then
      (getR M_7 a0 11 5).bind fun v_9 =>
      (getR M_7 a0 11 6).bind fun v_10 =>
      (p4_take v_9 v_10 M_7).bind fun q_11 =>
      (putI q_11 a0 11 10 0).bind fun M_12 =>
      (getR M_12 a0 11 5).bind fun v_13 =>
      (getI M_12 v_13 5 9).bind fun v_14 =>
      xr (some (v_14, M_12))
    else
      thr M_7 0)
abbrev rm11_led : Room := { frames := 7, cells := 1, slots := 6, locals := 111 }
def p11_led_J34 (M : mMem) (u0 : Int32) : Option ((Nat × mMem) ⊕ Int32) :=
  xr (some u0)
def p11_led (a0 : Nat) (x1 : Int32) (x2 : Int32) (M : mMem) : Option ((Nat × mMem) ⊕ Int32) :=
  gd M a0 11 (
    xb (p11_mustBe a0 x1 M) fun v_1 =>
    if x2 = 0 then
      (getR M a0 11 3).bind fun v_2 =>
      (getR M v_2 3 3).bind fun v_3 =>
      (p6_rowsTo v_3 x1 M).bind fun v_4 =>
      p11_led_J34 M v_4
    else
      (getR M a0 11 3).bind fun v_5 =>
      (getR M v_5 3 3).bind fun v_6 =>
      (p6_latestDayTo v_6 x1 M).bind fun v_7 =>
      p11_led_J34 M v_7)
abbrev rm11_lend : Room := { frames := 8, cells := 4, slots := 24, locals := 133 }
def p11_lend_J61 (a0 : Nat) (x1 : Int32) (x2 : Int32) (a3 : Nat) (u0 : Int32) (M : mMem) : Option ((Nat × mMem) ⊕ (Int32 × mMem)) :=
  xb (p11_mustHold u0 M) fun v_1 =>
  (p11_remember a0 M).bind fun q_2 =>
  (getR q_2 a0 11 3).bind fun v_3 =>
  (p2_lendOne v_3 x1 x2 q_2).bind fun q_4 =>
  (getI q_4 a3 9 7).bind fun v_5 =>
  xr (some (v_5, q_4))
def p11_lend_J60 (a0 : Nat) (x1 : Int32) (x2 : Int32) (a3 : Nat) (M : mMem) : Option ((Nat × mMem) ⊕ (Int32 × mMem)) :=
  p11_lend_J61 a0 x1 x2 a3 0 M
def p11_lend (a0 : Nat) (x1 : Int32) (x2 : Int32) (M : mMem) : Option ((Nat × mMem) ⊕ (Int32 × mMem)) :=
  gd M a0 11 (
    xb (p11_mustBeTwo a0 x1 x2 M) fun v_1 =>
    (getR M a0 11 3).bind fun v_2 =>
    (p2_at v_2 x1 M).bind fun v_3 =>
    (getR M a0 11 3).bind fun v_4 =>
    (p2_at v_4 x2 M).bind fun v_5 =>
    (getI M v_3 9 7).bind fun v_6 =>
    if 0 < v_6 then
      (getI M v_5 9 7).bind fun v_7 =>
      if v_7 < 9 then
        (getR M a0 11 3).bind fun v_8 =>
        (p2_lentBy v_8 x1 x2 M).bind fun v_9 =>
        if v_9 < 9 then
          p11_lend_J61 a0 x1 x2 v_3 1 M
        else
          p11_lend_J60 a0 x1 x2 v_3 M
      else
        p11_lend_J60 a0 x1 x2 v_3 M
    else
      p11_lend_J60 a0 x1 x2 v_3 M)
abbrev rm11_lent : Room := { frames := 8, cells := 3, slots := 18, locals := 133 }
def p11_lent (a0 : Nat) (x1 : Int32) (x2 : Int32) (M : mMem) : Option ((Nat × mMem) ⊕ Int32) :=
  gd M a0 11 (
    xb (p11_mustBeTwo a0 x1 x2 M) fun v_1 =>
    (getR M a0 11 3).bind fun v_2 =>
    (p2_lentBy v_2 x1 x2 M).bind fun v_3 =>
    xr (some v_3))
abbrev rm11_log : Room := { frames := 6, cells := 1, slots := 6, locals := 90 }
def p11_log_J9 (M : mMem) : Option ((Nat × mMem) ⊕ Int32) :=
  thr M 4
def p11_log (a0 : Nat) (x1 : Int32) (x2 : Int32) (M : mMem) : Option ((Nat × mMem) ⊕ Int32) :=
  gd M a0 11 (
    if x2 < 0 then
      p11_log_J9 M
    else
      if x2 < 5 then
        (getR M a0 11 3).bind fun v_1 =>
        (getR M v_1 3 3).bind fun v_2 =>
        (p6_cell v_2 x1 x2 M).bind fun v_3 =>
        xr (some v_3)
      else
        p11_log_J9 M)
abbrev rm11_mate : Room := { frames := 69, cells := 1, slots := 6, locals := 1645 }
def p11_mate (a0 : Nat) (x1 : Int32) (M : mMem) : Option ((Nat × mMem) ⊕ (Int32 × mMem)) :=
  gd M a0 11 (
    xb (p11_mustBe a0 x1 M) fun v_1 =>
    (getR M a0 11 16).bind fun v_2 =>
    (p7_bestMatching v_2 M).bind fun q_3 =>
    (getR q_3 a0 11 16).bind fun v_4 =>
    (p7_bestOf v_4 x1 q_3).bind fun v_5 =>
    xr (some (v_5, q_3)))
abbrev rm11_mild : Room := { frames := 7, cells := 1, slots := 6, locals := 152 }
def p11_mild (a0 : Nat) (x1 : Int32) (M : mMem) : Option ((Nat × mMem) ⊕ (Int32 × mMem)) :=
  gd M a0 11 (
    xb (p11_mustLie x1 0 60 M) fun v_1 =>
    (getR M a0 11 14).bind fun v_2 =>
    (p1_mildest v_2 x1 M).bind fun q_3 =>
    xr (some (q_3.1, q_3.2)))
abbrev rm11_odds : Room := { frames := 7, cells := 3, slots := 18, locals := 112 }
def p11_odds (a0 : Nat) (x1 : Int32) (x2 : Int32) (x3 : Int32) (M : mMem) : Option ((Nat × mMem) ⊕ Int32) :=
  gd M a0 11 (
    xb (p11_mustBe a0 x1 M) fun v_1 =>
    xb (p11_mustLie x2 0 3 M) fun v_2 =>
    xb (p11_mustLie x3 0 3 M) fun v_3 =>
    (getR M a0 11 17).bind fun v_4 =>
    (p10_chanceOfNo v_4 x1 x2 x3 M).bind fun v_5 =>
    xr (some v_5))
abbrev rm11_over : Room := { frames := 7, cells := 1, slots := 6, locals := 129 }
def p11_over (a0 : Nat) (x1 : Int32) (M : mMem) : Option ((Nat × mMem) ⊕ (Int32 × mMem)) :=
  gd M a0 11 (
    xb (p11_mustBe a0 x1 M) fun v_1 =>
    (getR M a0 11 14).bind fun v_2 =>
    (p1_firstTurn v_2 x1 M).bind fun q_3 =>
    xr (some (q_3.1, q_3.2)))
abbrev rm11_owes : Room := { frames := 8, cells := 3, slots := 18, locals := 133 }
def p11_owes (a0 : Nat) (x1 : Int32) (x2 : Int32) (M : mMem) : Option ((Nat × mMem) ⊕ Int32) :=
  gd M a0 11 (
    xb (p11_mustBeTwo a0 x1 x2 M) fun v_1 =>
    (getR M a0 11 3).bind fun v_2 =>
    (p2_lentBy v_2 x2 x1 M).bind fun v_3 =>
    (getR M a0 11 3).bind fun v_4 =>
    (p2_lentBy v_4 x1 x2 M).bind fun v_5 =>
    xr (some (maxI 0 (v_3 - v_5))))
abbrev rm11_part : Room := { frames := 7, cells := 2, slots := 12, locals := 113 }
def p11_part_J27 (a0 : Nat) (x1 : Int32) (x2 : Int32) (u0 : Int32) (M : mMem) : Option ((Nat × mMem) ⊕ (Int32 × mMem)) :=
  xb (p11_mustHold u0 M) fun v_1 =>
  (p11_remember a0 M).bind fun q_2 =>
  (getR q_2 a0 11 3).bind fun v_3 =>
  (p2_at v_3 x1 q_2).bind fun v_4 =>
  (putI q_2 v_4 9 4 (-1)).bind fun M_5 =>
  (getR M_5 a0 11 3).bind fun v_6 =>
  (p2_at v_6 x2 M_5).bind fun v_7 =>
  (putI M_5 v_7 9 4 (-1)).bind fun M_8 =>
  xr (some (x2, M_8))
def p11_part (a0 : Nat) (x1 : Int32) (M : mMem) : Option ((Nat × mMem) ⊕ (Int32 × mMem)) :=
  gd M a0 11 (
    xb (p11_mustBe a0 x1 M) fun v_1 =>
    (getR M a0 11 3).bind fun v_2 =>
    (p2_at v_2 x1 M).bind fun v_3 =>
    (getI M v_3 9 4).bind fun v_4 =>
    if v_4 = (-1) then
      p11_part_J27 a0 x1 v_4 0 M
    else
      p11_part_J27 a0 x1 v_4 1 M)
abbrev rm11_person : Room := { frames := 7, cells := 2, slots := 12, locals := 111 }
def p11_person (a0 : Nat) (x1 : Int32) (x2 : Int32) (M : mMem) : Option ((Nat × mMem) ⊕ Int32) :=
  gd M a0 11 (
    xb (p11_mustBe a0 x1 M) fun v_1 =>
    (getR M a0 11 3).bind fun v_2 =>
    (p2_at v_2 x1 M).bind fun v_3 =>
    swI x2 (
      thr M 4) [(0,
      (getI M v_3 9 0).bind fun v_4 =>
      xr (some v_4)), (1,
      (getI M v_3 9 1).bind fun v_5 =>
      xr (some v_5)), (2,
      (getI M v_3 9 2).bind fun v_6 =>
      xr (some v_6)), (3,
      (getI M v_3 9 3).bind fun v_7 =>
      xr (some v_7)), (4,
      (getI M v_3 9 4).bind fun v_8 =>
      xr (some v_8)), (5,
      (getI M v_3 9 5).bind fun v_9 =>
      xr (some v_9)), (6,
      (getI M v_3 9 6).bind fun v_10 =>
      xr (some v_10)), (7,
      (getI M v_3 9 7).bind fun v_11 =>
      xr (some v_11)), (8,
      (getI M v_3 9 8).bind fun v_12 =>
      xr (some v_12)), (9,
      (getR M a0 11 3).bind fun v_13 =>
      (p2_governedBy v_13 x1 M).bind fun v_14 =>
      xr (some v_14)), (10,
      (getR M a0 11 3).bind fun v_15 =>
      (getR M v_15 3 3).bind fun v_16 =>
      (p6_shareOf v_16 x1 M).bind fun v_17 =>
      xr (some v_17))])
abbrev rm11_rests : Room := { frames := 8, cells := 4, slots := 24, locals := 133 }
def p11_rests (a0 : Nat) (x1 : Int32) (x2 : Int32) (M : mMem) : Option ((Nat × mMem) ⊕ (Int32 × mMem)) :=
  gd M a0 11 (
    xb (p11_mustBeTwo a0 x1 x2 M) fun v_1 =>
    (getR M a0 11 3).bind fun v_2 =>
    (p2_governs v_2 x1 x2 M).bind fun v_3 =>
    xb (p11_mustHold v_3 M) fun v_4 =>
    (getR M a0 11 5).bind fun v_5 =>
    (getR M a0 11 3).bind fun v_6 =>
    (p4_weight v_5 v_6 x1 x2 0 M).bind fun q_7 =>
    (getR q_7.2 a0 11 5).bind fun v_8 =>
    (getR q_7.2 a0 11 3).bind fun v_9 =>
    (p4_weight v_8 v_9 x1 x2 1 q_7.2).bind fun q_10 =>
    (getR q_10.2 a0 11 17).bind fun v_11 =>
    (getR q_10.2 a0 11 3).bind fun v_12 =>
    (p2_at v_12 x1 q_10.2).bind fun v_13 =>
    (getI q_10.2 v_13 9 6).bind fun v_14 =>
    (divI v_14 10).bind fun v_15 =>
    (p10_restingChoices v_11 v_15 q_7.1 q_10.1 q_10.2).bind fun v_16 =>
    xr (some (v_16, q_10.2)))
abbrev rm11_ring : Room := { frames := 7, cells := 1, slots := 6, locals := 111 }
def p11_ring_J27 (M : mMem) (u0 : Int32) : Option ((Nat × mMem) ⊕ Int32) :=
  xr ((bZ u0).bind fun z => some z)
def p11_ring (a0 : Nat) (x1 : Int32) (M : mMem) : Option ((Nat × mMem) ⊕ Int32) :=
  gd M a0 11 (
    xb (p11_mustBe a0 x1 M) fun v_1 =>
    (getR M a0 11 17).bind fun v_2 =>
    (p10_reached v_2 x1 1 M).bind fun v_3 =>
    if ((v_3 >>> (x1 &&& 31)) &&& 1) = 1 then
      p11_ring_J27 M 1
    else
      p11_ring_J27 M 0)
abbrev rm11_said : Room := { frames := 7, cells := 2, slots := 12, locals := 157 }
def p11_said (a0 : Nat) (x1 : Int32) (M : mMem) : Option ((Nat × mMem) ⊕ (Int32 × mMem)) :=
  gd M a0 11 (
    (p11_usedTape a0 M).bind fun q_1 =>
    xb (p11_mustBe a0 x1 q_1.2) fun v_2 =>
    xb (p11_mustBeSightings a0 q_1.1 q_1.2) fun v_3 =>
    (getR q_1.2 a0 11 15).bind fun v_4 =>
    (getR q_1.2 a0 11 0).bind fun v_5 =>
    (p0_fitting v_4 x1 v_5 q_1.1 q_1.2).bind fun q_6 =>
    xr (some (q_6.1, q_6.2)))
abbrev rm11_say : Room := { frames := 7, cells := 3, slots := 18, locals := 113 }
def p11_say (a0 : Nat) (x1 : Int32) (x2 : Int32) (x3 : Int32) (M : mMem) : Option ((Nat × mMem) ⊕ (Int32 × mMem)) :=
  gd M a0 11 (
    xb (p11_mustBe a0 x1 M) fun v_1 =>
    xb (p11_mustBe a0 x2 M) fun v_2 =>
    (getR M a0 11 3).bind fun v_3 =>
    (p2_governs v_3 x1 x2 M).bind fun v_4 =>
    xb (p11_mustHold v_4 M) fun v_5 =>
    (p11_remember a0 M).bind fun q_6 =>
    (getR q_6 a0 11 3).bind fun v_7 =>
    (getR q_6 a0 11 5).bind fun v_8 =>
    (getR q_6 a0 11 3).bind fun v_9 =>
    (p4_weight v_8 v_9 x1 x2 x3 q_6).bind fun q_10 =>
    (p2_tell v_7 x1 x2 x3 q_10.1 q_10.2).bind fun q_11 =>
    xr (some (q_11.1, q_11.2)))
abbrev rm11_span : Room := { frames := 7, cells := 1, slots := 6, locals := 158 }
def p11_span (a0 : Nat) (x1 : Int32) (x2 : Int32) (M : mMem) : Option ((Nat × mMem) ⊕ (Int32 × mMem)) :=
  gd M a0 11 (
    xb (p11_mustLie x1 0 100 M) fun v_1 =>
    (getR M a0 11 14).bind fun v_2 =>
    (p1_spanned v_2 x1 x2 M).bind fun q_3 =>
    xr (some (q_3.1, q_3.2)))
abbrev rm11_stable : Room := { frames := 7, cells := 1, slots := 6, locals := 147 }
def p11_stable (a0 : Nat) (x1 : Int32) (M : mMem) : Option ((Nat × mMem) ⊕ (Int32 × mMem)) :=
  gd M a0 11 (
    xb (p11_mustBe a0 x1 M) fun v_1 =>
    (getR M a0 11 16).bind fun v_2 =>
    (p7_stableOf v_2 x1 M).bind fun q_3 =>
    xr (some (q_3.1, q_3.2)))
abbrev rm11_stern : Room := { frames := 7, cells := 2, slots := 12, locals := 113 }
def p11_stern (a0 : Nat) (x1 : Int32) (x2 : Int32) (M : mMem) : Option ((Nat × mMem) ⊕ (Int32 × mMem)) :=
  gd M a0 11 (
    xb (p11_mustBe a0 x1 M) fun v_1 =>
    xb (p11_mustLie x2 0 100 M) fun v_2 =>
    (p11_remember a0 M).bind fun q_3 =>
    (getR q_3 a0 11 3).bind fun v_4 =>
    (p2_at v_4 x1 q_3).bind fun v_5 =>
    (getI q_3 v_5 9 6).bind fun v_6 =>
    (getR q_3 a0 11 3).bind fun v_7 =>
    (p2_at v_7 x1 q_3).bind fun v_8 =>
    (putI q_3 v_8 9 6 x2).bind fun M_9 =>
    xr (some (v_6, M_9)))
abbrev rm11_trial : Room := { frames := 7, cells := 1, slots := 6, locals := 155 }
def p11_trial (a0 : Nat) (x1 : Int32) (x2 : Int32) (M : mMem) : Option ((Nat × mMem) ⊕ (Int32 × mMem)) :=
  gd M a0 11 (
    xb (p11_mustLie x1 0 100 M) fun v_1 =>
    (getR M a0 11 14).bind fun v_2 =>
    (p1_tried v_2 x1 x2 M).bind fun q_3 =>
    xr (some (q_3.1, q_3.2)))
abbrev rm11_under : Room := { frames := 7, cells := 1, slots := 6, locals := 111 }
def p11_under (a0 : Nat) (x1 : Int32) (M : mMem) : Option ((Nat × mMem) ⊕ Int32) :=
  gd M a0 11 (
    xb (p11_mustBe a0 x1 M) fun v_1 =>
    (getR M a0 11 17).bind fun v_2 =>
    (p10_reached v_2 x1 0 M).bind fun v_3 =>
    xr (some v_3))
abbrev rm11_use : Room := { frames := 7, cells := 2, slots := 12, locals := 113 }
def p11_use_J24 (a0 : Nat) (x1 : Int32) (u0 : Int32) (M : mMem) : Option ((Nat × mMem) ⊕ (Int32 × mMem)) :=
  xb (p11_mustHold u0 M) fun v_1 =>
  (p11_remember a0 M).bind fun q_2 =>
  (getR q_2 a0 11 3).bind fun v_3 =>
  (p2_at v_3 x1 q_2).bind fun v_4 =>
  (getI q_2 v_4 9 7).bind fun v_5 =>
  (putI q_2 v_4 9 7 (v_5 - 1)).bind fun M_6 =>
  (getR M_6 a0 11 3).bind fun v_7 =>
  (getR M_6 a0 11 3).bind fun v_8 =>
  (getR M_6 a0 11 3).bind fun v_9 =>
  (getI M_6 v_9 3 7).bind fun v_10 =>
  (p2_leftByRound v_8 v_10 M_6).bind fun v_11 =>
  (p2_tell v_7 x1 x1 1 v_11 M_6).bind fun q_12 =>
  xr (some (q_12.1, q_12.2))
def p11_use (a0 : Nat) (x1 : Int32) (M : mMem) : Option ((Nat × mMem) ⊕ (Int32 × mMem)) :=
  gd M a0 11 (
    xb (p11_mustBe a0 x1 M) fun v_1 =>
    (getR M a0 11 3).bind fun v_2 =>
    (p2_at v_2 x1 M).bind fun v_3 =>
    (getI M v_3 9 7).bind fun v_4 =>
    if 0 < v_4 then
      p11_use_J24 a0 x1 1 M
    else
      p11_use_J24 a0 x1 0 M)
abbrev rm11_wed : Room := { frames := 8, cells := 4, slots := 24, locals := 133 }
def p11_wed (a0 : Nat) (x1 : Int32) (x2 : Int32) (M : mMem) : Option ((Nat × mMem) ⊕ (Int32 × mMem)) :=
  gd M a0 11 (
    xb (p11_mustBeTwo a0 x1 x2 M) fun v_1 =>
    (getR M a0 11 3).bind fun v_2 =>
    (p2_mayWed v_2 x1 x2 M).bind fun v_3 =>
    xb (p11_mustHold v_3 M) fun v_4 =>
    (p11_remember a0 M).bind fun q_5 =>
    (getR q_5 a0 11 3).bind fun v_6 =>
    (p2_join v_6 x1 x2 q_5).bind fun q_7 =>
    (getR q_7 a0 11 3).bind fun v_8 =>
    (p2_gapOf v_8 x1 x2 q_7).bind fun v_9 =>
    xr (some (v_9, q_7)))
abbrev rm11_weighs : Room := { frames := 8, cells := 3, slots := 18, locals := 133 }
def p11_weighs (a0 : Nat) (x1 : Int32) (x2 : Int32) (x3 : Int32) (M : mMem) : Option ((Nat × mMem) ⊕ (Int32 × mMem)) :=
  gd M a0 11 (
    xb (p11_mustBeTwo a0 x1 x2 M) fun v_1 =>
    (getR M a0 11 5).bind fun v_2 =>
    (getR M a0 11 3).bind fun v_3 =>
    (p4_weight v_2 v_3 x1 x2 x3 M).bind fun q_4 =>
    xr (some (q_4.1, q_4.2)))
abbrev rm11_would : Room := { frames := 8, cells := 3, slots := 18, locals := 133 }
def p11_would (a0 : Nat) (x1 : Int32) (x2 : Int32) (x3 : Int32) (M : mMem) : Option ((Nat × mMem) ⊕ (Int32 × mMem)) :=
  gd M a0 11 (
    xb (p11_mustBeTwo a0 x1 x2 M) fun v_1 =>
    (getR M a0 11 3).bind fun v_2 =>
    (getR M a0 11 3).bind fun v_3 =>
    (p2_at v_3 x2 M).bind fun v_4 =>
    (getI M v_4 9 0).bind fun v_5 =>
    (getR M a0 11 5).bind fun v_6 =>
    (getR M a0 11 3).bind fun v_7 =>
    (p4_weight v_6 v_7 x1 x2 x3 M).bind fun q_8 =>
    (p2_moved v_2 v_5 q_8.1 x3 q_8.2).bind fun v_9 =>
    xr (some (v_9, q_8.2)))
