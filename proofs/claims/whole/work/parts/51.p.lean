abbrev rmL_family : Room := { frames := 12, cells := 2, slots := 12, locals := 376 }
def pL_family (a0 : Nat) (a1 : Nat) (M : mMem) : Option (Int32 × mMem) :=
  xc (p11_family a0 M) (fun k9 M9 => if k9 = 0 then some (1, M9) else if k9 = 3 then some (2, M9) else none) fun q_1 =>
  (astL q_1.2 a1 0 (q_1.1.toInt64)).bind fun M_2 =>
  some (0, M_2)
abbrev rmL_law : Room := { frames := 72, cells := 1, slots := 6, locals := 1580 }
def pL_law (a0 : Nat) (a1 : Nat) (M : mMem) : Option (Int32 × mMem) :=
  xc (p11_law a0 M) (fun k9 M9 => if k9 = 0 then some (1, M9) else none) fun q_1 =>
  (astL q_1.2 a1 0 (q_1.1.toInt64)).bind fun M_2 =>
  some (0, M_2)
abbrev rmL_person : Room := { frames := 8, cells := 2, slots := 12, locals := 134 }
def pL_person (a0 : Nat) (x1 : Int32) (x2 : Int32) (a3 : Nat) (M : mMem) : Option (Int32 × mMem) :=
  xc (p11_person a0 x1 x2 M) (fun k9 M9 => if k9 = 2 then some (1, M9) else if k9 = 4 then some (2, M9) else none) fun v_1 =>
  (astL M a3 0 (v_1.toInt64)).bind fun M_2 =>
  some (0, M_2)
abbrev rmL_lent : Room := { frames := 9, cells := 3, slots := 18, locals := 155 }
def pL_lent (a0 : Nat) (x1 : Int32) (x2 : Int32) (a3 : Nat) (M : mMem) : Option (Int32 × mMem) :=
  xc (p11_lent a0 x1 x2 M) (fun k9 M9 => if k9 = 2 then some (1, M9) else if k9 = 0 then some (2, M9) else none) fun v_1 =>
  (astL M a3 0 (v_1.toInt64)).bind fun M_2 =>
  some (0, M_2)
abbrev rmL_weighs : Room := { frames := 9, cells := 3, slots := 18, locals := 156 }
def pL_weighs (a0 : Nat) (x1 : Int32) (x2 : Int32) (x3 : Int32) (a4 : Nat) (M : mMem) : Option (Int32 × mMem) :=
  xc (p11_weighs a0 x1 x2 x3 M) (fun k9 M9 => if k9 = 2 then some (1, M9) else if k9 = 0 then some (2, M9) else none) fun q_1 =>
  (astL q_1.2 a4 0 (q_1.1.toInt64)).bind fun M_2 =>
  some (0, M_2)
abbrev rmL_gap : Room := { frames := 9, cells := 3, slots := 18, locals := 155 }
def pL_gap (a0 : Nat) (x1 : Int32) (x2 : Int32) (a3 : Nat) (M : mMem) : Option (Int32 × mMem) :=
  xc (p11_gap a0 x1 x2 M) (fun k9 M9 => if k9 = 2 then some (1, M9) else if k9 = 0 then some (2, M9) else none) fun v_1 =>
  (astL M a3 0 (v_1.toInt64)).bind fun M_2 =>
  some (0, M_2)
abbrev rmL_say : Room := { frames := 8, cells := 3, slots := 18, locals := 136 }
def pL_say (a0 : Nat) (x1 : Int32) (x2 : Int32) (x3 : Int32) (a4 : Nat) (M : mMem) : Option (Int32 × mMem) :=
  xc (p11_say a0 x1 x2 x3 M) (fun k9 M9 => if k9 = 2 then some (1, M9) else if k9 = 1 then some (2, M9) else none) fun q_1 =>
  (astL q_1.2 a4 0 (q_1.1.toInt64)).bind fun M_2 =>
  some (0, M_2)
abbrev rmL_bear : Room := { frames := 8, cells := 2, slots := 12, locals := 136 }
def pL_bear (a0 : Nat) (x1 : Int32) (x2 : Int32) (a3 : Nat) (M : mMem) : Option (Int32 × mMem) :=
  xc (p11_bear a0 x1 x2 M) (fun k9 M9 => if k9 = 2 then some (1, M9) else if k9 = 1 then some (2, M9) else none) fun q_1 =>
  (astL q_1.2 a3 0 (q_1.1.toInt64)).bind fun M_2 =>
  some (0, M_2)
abbrev rmL_wed : Room := { frames := 9, cells := 4, slots := 24, locals := 155 }
def pL_wed (a0 : Nat) (x1 : Int32) (x2 : Int32) (a3 : Nat) (M : mMem) : Option (Int32 × mMem) :=
  xc (p11_wed a0 x1 x2 M) (fun k9 M9 => if k9 = 2 then some (1, M9) else if k9 = 0 then some (2, M9) else if k9 = 1 then some (3, M9) else none) fun q_1 =>
  (astL q_1.2 a3 0 (q_1.1.toInt64)).bind fun M_2 =>
  some (0, M_2)
abbrev rmL_part : Room := { frames := 8, cells := 2, slots := 12, locals := 135 }
def pL_part (a0 : Nat) (x1 : Int32) (a2 : Nat) (M : mMem) : Option (Int32 × mMem) :=
  xc (p11_part a0 x1 M) (fun k9 M9 => if k9 = 2 then some (1, M9) else if k9 = 1 then some (2, M9) else none) fun q_1 =>
  (astL q_1.2 a2 0 (q_1.1.toInt64)).bind fun M_2 =>
  some (0, M_2)
abbrev rmL_lend : Room := { frames := 9, cells := 4, slots := 24, locals := 157 }
def pL_lend (a0 : Nat) (x1 : Int32) (x2 : Int32) (a3 : Nat) (M : mMem) : Option (Int32 × mMem) :=
  xc (p11_lend a0 x1 x2 M) (fun k9 M9 => if k9 = 2 then some (1, M9) else if k9 = 0 then some (2, M9) else if k9 = 1 then some (3, M9) else none) fun q_1 =>
  (astL q_1.2 a3 0 (q_1.1.toInt64)).bind fun M_2 =>
  some (0, M_2)
abbrev rmL_use : Room := { frames := 8, cells := 2, slots := 12, locals := 134 }
def pL_use (a0 : Nat) (x1 : Int32) (a2 : Nat) (M : mMem) : Option (Int32 × mMem) :=
  xc (p11_use a0 x1 M) (fun k9 M9 => if k9 = 2 then some (1, M9) else if k9 = 1 then some (2, M9) else none) fun q_1 =>
  (astL q_1.2 a2 0 (q_1.1.toInt64)).bind fun M_2 =>
  some (0, M_2)
abbrev rmL_govern : Room := { frames := 9, cells := 3, slots := 18, locals := 157 }
def pL_govern_J18 (b0 : Nat) (u1 : Int32) (w2 : Int64) (M : mMem) : Option (Int32 × mMem) :=
  (astL M b0 u1 w2).bind fun M_1 =>
  some (0, M_1)
def pL_govern (a0 : Nat) (x1 : Int32) (x2 : Int32) (x3 : Int32) (a4 : Nat) (M : mMem) : Option (Int32 × mMem) :=
  xc (p11_govern a0 x1 x2 x3 M) (fun k9 M9 => if k9 = 2 then some (1, M9) else if k9 = 0 then some (2, M9) else none) fun q_1 =>
  if q_1.1 = 0 then
    pL_govern_J18 a4 0 0 q_1.2
  else
    pL_govern_J18 a4 0 1 q_1.2
abbrev rmL_stern : Room := { frames := 8, cells := 2, slots := 12, locals := 136 }
def pL_stern (a0 : Nat) (x1 : Int32) (x2 : Int32) (a3 : Nat) (M : mMem) : Option (Int32 × mMem) :=
  xc (p11_stern a0 x1 x2 M) (fun k9 M9 => if k9 = 2 then some (1, M9) else if k9 = 0 then some (2, M9) else none) fun q_1 =>
  (astL q_1.2 a3 0 (q_1.1.toInt64)).bind fun M_2 =>
  some (0, M_2)
abbrev rmL_days : Room := { frames := 8, cells := 1, slots := 6, locals := 154 }
def pL_days (a0 : Nat) (x1 : Int32) (a2 : Nat) (M : mMem) : Option (Int32 × mMem) :=
  xc (p11_days a0 x1 M) (fun k9 M9 => if k9 = 0 then some (1, M9) else none) fun q_1 =>
  (astL q_1.2 a2 0 (q_1.1.toInt64)).bind fun M_2 =>
  some (0, M_2)
abbrev rmL_would : Room := { frames := 9, cells := 3, slots := 18, locals := 156 }
def pL_would (a0 : Nat) (x1 : Int32) (x2 : Int32) (x3 : Int32) (a4 : Nat) (M : mMem) : Option (Int32 × mMem) :=
  xc (p11_would a0 x1 x2 x3 M) (fun k9 M9 => if k9 = 2 then some (1, M9) else if k9 = 0 then some (2, M9) else none) fun q_1 =>
  (astL q_1.2 a4 0 (q_1.1.toInt64)).bind fun M_2 =>
  some (0, M_2)
abbrev rmL_fewest : Room := { frames := 8, cells := 2, slots := 12, locals := 175 }
def pL_fewest (a0 : Nat) (x1 : Int32) (x2 : Int32) (a3 : Nat) (M : mMem) : Option (Int32 × mMem) :=
  xc (p11_fewest a0 x1 x2 M) (fun k9 M9 => if k9 = 2 then some (1, M9) else if k9 = 0 then some (2, M9) else none) fun q_1 =>
  (astL q_1.2 a3 0 (q_1.1.toInt64)).bind fun M_2 =>
  some (0, M_2)
abbrev rmL_first : Room := { frames := 8, cells := 2, slots := 12, locals := 175 }
def pL_first (a0 : Nat) (x1 : Int32) (x2 : Int32) (a3 : Nat) (M : mMem) : Option (Int32 × mMem) :=
  xc (p11_first a0 x1 x2 M) (fun k9 M9 => if k9 = 2 then some (1, M9) else if k9 = 0 then some (2, M9) else none) fun q_1 =>
  (astL q_1.2 a3 0 (q_1.1.toInt64)).bind fun M_2 =>
  some (0, M_2)
abbrev rmL_can : Room := { frames := 8, cells := 2, slots := 12, locals := 177 }
def pL_can (a0 : Nat) (x1 : Int32) (x2 : Int32) (a3 : Nat) (M : mMem) : Option (Int32 × mMem) :=
  xc (p11_can a0 x1 x2 M) (fun k9 M9 => if k9 = 2 then some (1, M9) else if k9 = 0 then some (2, M9) else none) fun q_1 =>
  (astL q_1.2 a3 0 (q_1.1.toInt64)).bind fun M_2 =>
  some (0, M_2)
abbrev rmL_harsh : Room := { frames := 8, cells := 1, slots := 6, locals := 132 }
def pL_harsh (a0 : Nat) (x1 : Int32) (a2 : Nat) (M : mMem) : Option (Int32 × mMem) :=
  xc (p11_harsh a0 x1 M) (fun k9 M9 => if k9 = 2 then some (1, M9) else none) fun q_1 =>
  (astL q_1.2 a2 0 (q_1.1.toInt64)).bind fun M_2 =>
  some (0, M_2)
abbrev rmL_kind : Room := { frames := 8, cells := 1, slots := 6, locals := 132 }
def pL_kind (a0 : Nat) (x1 : Int32) (a2 : Nat) (M : mMem) : Option (Int32 × mMem) :=
  xc (p11_kind a0 x1 M) (fun k9 M9 => if k9 = 2 then some (1, M9) else none) fun q_1 =>
  (astL q_1.2 a2 0 (q_1.1.toInt64)).bind fun M_2 =>
  some (0, M_2)
abbrev rmL_over : Room := { frames := 8, cells := 1, slots := 6, locals := 150 }
def pL_over (a0 : Nat) (x1 : Int32) (a2 : Nat) (M : mMem) : Option (Int32 × mMem) :=
  xc (p11_over a0 x1 M) (fun k9 M9 => if k9 = 2 then some (1, M9) else none) fun q_1 =>
  (astL q_1.2 a2 0 (q_1.1.toInt64)).bind fun M_2 =>
  some (0, M_2)
abbrev rmL_said : Room := { frames := 8, cells := 2, slots := 12, locals := 179 }
def pL_said (a0 : Nat) (x1 : Int32) (a2 : Nat) (M : mMem) : Option (Int32 × mMem) :=
  xc (p11_said a0 x1 M) (fun k9 M9 => if k9 = 2 then some (1, M9) else if k9 = 0 then some (2, M9) else none) fun q_1 =>
  (astL q_1.2 a2 0 (q_1.1.toInt64)).bind fun M_2 =>
  some (0, M_2)
abbrev rmL_ask : Room := { frames := 8, cells := 2, slots := 12, locals := 207 }
def pL_ask (a0 : Nat) (x1 : Int32) (a2 : Nat) (M : mMem) : Option (Int32 × mMem) :=
  xc (p11_ask a0 x1 M) (fun k9 M9 => if k9 = 2 then some (1, M9) else if k9 = 0 then some (2, M9) else none) fun q_1 =>
  (astL q_1.2 a2 0 (q_1.1.toInt64)).bind fun M_2 =>
  some (0, M_2)
abbrev rmL_mate : Room := { frames := 70, cells := 1, slots := 6, locals := 1666 }
def pL_mate (a0 : Nat) (x1 : Int32) (a2 : Nat) (M : mMem) : Option (Int32 × mMem) :=
  xc (p11_mate a0 x1 M) (fun k9 M9 => if k9 = 2 then some (1, M9) else none) fun q_1 =>
  (astL q_1.2 a2 0 (q_1.1.toInt64)).bind fun M_2 =>
  some (0, M_2)
abbrev rmL_stable : Room := { frames := 8, cells := 1, slots := 6, locals := 168 }
def pL_stable (a0 : Nat) (x1 : Int32) (a2 : Nat) (M : mMem) : Option (Int32 × mMem) :=
  xc (p11_stable a0 x1 M) (fun k9 M9 => if k9 = 2 then some (1, M9) else none) fun q_1 =>
  (astL q_1.2 a2 0 (q_1.1.toInt64)).bind fun M_2 =>
  some (0, M_2)
abbrev rmL_owes : Room := { frames := 9, cells := 3, slots := 18, locals := 155 }
def pL_owes (a0 : Nat) (x1 : Int32) (x2 : Int32) (a3 : Nat) (M : mMem) : Option (Int32 × mMem) :=
  xc (p11_owes a0 x1 x2 M) (fun k9 M9 => if k9 = 2 then some (1, M9) else if k9 = 0 then some (2, M9) else none) fun v_1 =>
  (astL M a3 0 (v_1.toInt64)).bind fun M_2 =>
  some (0, M_2)
abbrev rmL_ring : Room := { frames := 8, cells := 1, slots := 6, locals := 132 }
def pL_ring_J15 (b0 : Nat) (u1 : Int32) (w2 : Int64) (M : mMem) : Option (Int32 × mMem) :=
  (astL M b0 u1 w2).bind fun M_1 =>
  some (0, M_1)
def pL_ring (a0 : Nat) (x1 : Int32) (a2 : Nat) (M : mMem) : Option (Int32 × mMem) :=
  xc (p11_ring a0 x1 M) (fun k9 M9 => if k9 = 2 then some (1, M9) else none) fun v_1 =>
  if v_1 = 0 then
    pL_ring_J15 a2 0 0 M
  else
    pL_ring_J15 a2 0 1 M
abbrev rmL_rests : Room := { frames := 9, cells := 4, slots := 24, locals := 157 }
def pL_rests (a0 : Nat) (x1 : Int32) (x2 : Int32) (a3 : Nat) (M : mMem) : Option (Int32 × mMem) :=
  xc (p11_rests a0 x1 x2 M) (fun k9 M9 => if k9 = 2 then some (1, M9) else if k9 = 0 then some (2, M9) else if k9 = 1 then some (3, M9) else none) fun q_1 =>
  (astL q_1.2 a3 0 (q_1.1.toInt64)).bind fun M_2 =>
  some (0, M_2)
abbrev rmL_mild : Room := { frames := 8, cells := 1, slots := 6, locals := 173 }
def pL_mild (a0 : Nat) (x1 : Int32) (a2 : Nat) (M : mMem) : Option (Int32 × mMem) :=
  xc (p11_mild a0 x1 M) (fun k9 M9 => if k9 = 0 then some (1, M9) else none) fun q_1 =>
  (astL q_1.2 a2 0 (q_1.1.toInt64)).bind fun M_2 =>
  some (0, M_2)
abbrev rmL_branch : Room := { frames := 8, cells := 1, slots := 6, locals := 132 }
def pL_branch (a0 : Nat) (x1 : Int32) (a2 : Nat) (M : mMem) : Option (Int32 × mMem) :=
  xc (p11_branch a0 x1 M) (fun k9 M9 => if k9 = 2 then some (1, M9) else none) fun v_1 =>
  (astL M a2 0 (v_1.toInt64)).bind fun M_2 =>
  some (0, M_2)
abbrev rmL_kin : Room := { frames := 9, cells := 3, slots := 18, locals := 155 }
def pL_kin (a0 : Nat) (x1 : Int32) (x2 : Int32) (a3 : Nat) (M : mMem) : Option (Int32 × mMem) :=
  xc (p11_kin a0 x1 x2 M) (fun k9 M9 => if k9 = 2 then some (1, M9) else if k9 = 0 then some (2, M9) else none) fun v_1 =>
  (astL M a3 0 (v_1.toInt64)).bind fun M_2 =>
  some (0, M_2)
abbrev rmL_cousins : Room := { frames := 8, cells := 1, slots := 6, locals := 132 }
def pL_cousins (a0 : Nat) (x1 : Int32) (a2 : Nat) (M : mMem) : Option (Int32 × mMem) :=
  xc (p11_cousins a0 x1 M) (fun k9 M9 => if k9 = 2 then some (1, M9) else none) fun v_1 =>
  (astL M a2 0 (v_1.toInt64)).bind fun M_2 =>
  some (0, M_2)
abbrev rmL_under : Room := { frames := 8, cells := 1, slots := 6, locals := 132 }
def pL_under (a0 : Nat) (x1 : Int32) (a2 : Nat) (M : mMem) : Option (Int32 × mMem) :=
  xc (p11_under a0 x1 M) (fun k9 M9 => if k9 = 2 then some (1, M9) else none) fun v_1 =>
  (astL M a2 0 (v_1.toInt64)).bind fun M_2 =>
  some (0, M_2)
abbrev rmL_odds : Room := { frames := 8, cells := 3, slots := 18, locals := 135 }
def pL_odds (a0 : Nat) (x1 : Int32) (x2 : Int32) (x3 : Int32) (a4 : Nat) (M : mMem) : Option (Int32 × mMem) :=
  xc (p11_odds a0 x1 x2 x3 M) (fun k9 M9 => if k9 = 2 then some (1, M9) else if k9 = 0 then some (2, M9) else none) fun v_1 =>
  (astL M a4 0 (v_1.toInt64)).bind fun M_2 =>
  some (0, M_2)
abbrev rmL_ahead : Room := { frames := 8, cells := 2, slots := 12, locals := 154 }
def pL_ahead (a0 : Nat) (x1 : Int32) (x2 : Int32) (x3 : Int32) (a4 : Nat) (M : mMem) : Option (Int32 × mMem) :=
  xc (p11_ahead a0 x1 x2 x3 M) (fun k9 M9 => if k9 = 2 then some (1, M9) else if k9 = 0 then some (2, M9) else none) fun q_1 =>
  (astL q_1.2 a4 0 (q_1.1.toInt64)).bind fun M_2 =>
  some (0, M_2)
abbrev rmL_trial : Room := { frames := 8, cells := 1, slots := 6, locals := 177 }
def pL_trial (a0 : Nat) (x1 : Int32) (x2 : Int32) (a3 : Nat) (M : mMem) : Option (Int32 × mMem) :=
  xc (p11_trial a0 x1 x2 M) (fun k9 M9 => if k9 = 0 then some (1, M9) else none) fun q_1 =>
  (astL q_1.2 a3 0 (q_1.1.toInt64)).bind fun M_2 =>
  some (0, M_2)
abbrev rmL_span : Room := { frames := 8, cells := 1, slots := 6, locals := 180 }
def pL_span (a0 : Nat) (x1 : Int32) (x2 : Int32) (a3 : Nat) (M : mMem) : Option (Int32 × mMem) :=
  xc (p11_span a0 x1 x2 M) (fun k9 M9 => if k9 = 0 then some (1, M9) else none) fun q_1 =>
  (astL q_1.2 a3 0 (q_1.1.toInt64)).bind fun M_2 =>
  some (0, M_2)
abbrev rmL_led : Room := { frames := 8, cells := 1, slots := 6, locals := 133 }
def pL_led (a0 : Nat) (x1 : Int32) (x2 : Int32) (a3 : Nat) (M : mMem) : Option (Int32 × mMem) :=
  xc (p11_led a0 x1 x2 M) (fun k9 M9 => if k9 = 2 then some (1, M9) else none) fun v_1 =>
  (astL M a3 0 (v_1.toInt64)).bind fun M_2 =>
  some (0, M_2)
abbrev rmL_log : Room := { frames := 7, cells := 1, slots := 6, locals := 112 }
def pL_log (a0 : Nat) (x1 : Int32) (x2 : Int32) (a3 : Nat) (M : mMem) : Option (Int32 × mMem) :=
  xc (p11_log a0 x1 x2 M) (fun k9 M9 => if k9 = 4 then some (1, M9) else none) fun v_1 =>
  (astL M a3 0 (v_1.toInt64)).bind fun M_2 =>
  some (0, M_2)
