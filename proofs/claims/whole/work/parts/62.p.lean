def pW_J3518 (xs : Nat → Int32) (L : Nat) (rec23 : Nat → Nat → Nat → Int32 → mMem → Option Int32) (a1 : Nat) (a2 : Nat) (a3 : Nat) (x4 : Int32) (M : mMem) : Option Int32 :=
  rec23 a1 a2 a3 (x4 + 6) M
def pW_J443 (xs : Nat → Int32) (L : Nat) (rec23 : Nat → Nat → Nat → Int32 → mMem → Option Int32) (a1 : Nat) (a2 : Nat) (a3 : Nat) (x4 : Int32) (M : mMem) : Option Int32 :=
  pW_J3518 xs L rec23 a1 a2 a3 x4 M
def pW_J487 (xs : Nat → Int32) (L : Nat) (rec23 : Nat → Nat → Nat → Int32 → mMem → Option Int32) (a1 : Nat) (a2 : Nat) (a3 : Nat) (x4 : Int32) (M : mMem) : Option Int32 :=
  pW_J3518 xs L rec23 a1 a2 a3 x4 M
def pW_J568 (xs : Nat → Int32) (L : Nat) (rec23 : Nat → Nat → Nat → Int32 → mMem → Option Int32) (a1 : Nat) (a2 : Nat) (a3 : Nat) (x4 : Int32) (M : mMem) : Option Int32 :=
  pW_J3518 xs L rec23 a1 a2 a3 x4 M
def pW_J636 (xs : Nat → Int32) (L : Nat) (rec23 : Nat → Nat → Nat → Int32 → mMem → Option Int32) (a1 : Nat) (a2 : Nat) (a3 : Nat) (x4 : Int32) (M : mMem) : Option Int32 :=
  pW_J3518 xs L rec23 a1 a2 a3 x4 M
def pW_J732 (xs : Nat → Int32) (L : Nat) (rec23 : Nat → Nat → Nat → Int32 → mMem → Option Int32) (a1 : Nat) (a2 : Nat) (a3 : Nat) (x4 : Int32) (M : mMem) : Option Int32 :=
  pW_J3518 xs L rec23 a1 a2 a3 x4 M
def pW_J699 (xs : Nat → Int32) (L : Nat) (rec23 : Nat → Nat → Nat → Int32 → mMem → Option Int32) (a1 : Nat) (a2 : Nat) (a3 : Nat) (x4 : Int32) (x5 : Int32) (b0 : Nat) (u1 : Int32) (u2 : Int32) (u3 : Int32) (M : mMem) : Option Int32 :=
  (p12_weighs b0 u1 u2 u3 M).bind fun q_1 =>
  (p12_thrown a2 q_1.2).bind fun v_2 =>
  if v_2 = x5 then
    if x5 = 0 then
      (aldL q_1.2 a3 0).bind fun v_3 =>
      if (lg_cmp v_3 (q_1.1.toInt64)) = 0 then
        pW_J732 xs L rec23 a1 a2 a3 x4 q_1.2
      else
        some 0
    else
      pW_J732 xs L rec23 a1 a2 a3 x4 q_1.2
  else
    some 0
def pW_J666 (xs : Nat → Int32) (L : Nat) (rec23 : Nat → Nat → Nat → Int32 → mMem → Option Int32) (a1 : Nat) (a2 : Nat) (a3 : Nat) (x4 : Int32) (b0 : Nat) (u1 : Int32) (u2 : Int32) (u3 : Int32) (M : mMem) : Option Int32 :=
  (pL_weighs b0 u1 u2 u3 a3 M).bind fun q_1 =>
  (sld xs L (x4 + 1)).bind fun v_2 =>
  (sld xs L (x4 + 2)).bind fun v_3 =>
  (sld xs L (x4 + 3)).bind fun v_4 =>
  if v_4 = 0 then
    pW_J699 xs L rec23 a1 a2 a3 x4 q_1.1 a2 v_2 v_3 0 q_1.2
  else
    pW_J699 xs L rec23 a1 a2 a3 x4 q_1.1 a2 v_2 v_3 1 q_1.2
def pW_J800 (xs : Nat → Int32) (L : Nat) (rec23 : Nat → Nat → Nat → Int32 → mMem → Option Int32) (a1 : Nat) (a2 : Nat) (a3 : Nat) (x4 : Int32) (M : mMem) : Option Int32 :=
  pW_J3518 xs L rec23 a1 a2 a3 x4 M
def pW_J896 (xs : Nat → Int32) (L : Nat) (rec23 : Nat → Nat → Nat → Int32 → mMem → Option Int32) (a1 : Nat) (a2 : Nat) (a3 : Nat) (x4 : Int32) (M : mMem) : Option Int32 :=
  pW_J3518 xs L rec23 a1 a2 a3 x4 M
def pW_J863 (xs : Nat → Int32) (L : Nat) (rec23 : Nat → Nat → Nat → Int32 → mMem → Option Int32) (a1 : Nat) (a2 : Nat) (a3 : Nat) (x4 : Int32) (x5 : Int32) (b0 : Nat) (u1 : Int32) (u2 : Int32) (u3 : Int32) (M : mMem) : Option Int32 :=
  (p12_say b0 u1 u2 u3 M).bind fun q_1 =>
  (p12_thrown a2 q_1.2).bind fun v_2 =>
  if v_2 = x5 then
    if x5 = 0 then
      (aldL q_1.2 a3 0).bind fun v_3 =>
      if (lg_cmp v_3 (q_1.1.toInt64)) = 0 then
        pW_J896 xs L rec23 a1 a2 a3 x4 q_1.2
      else
        some 0
    else
      pW_J896 xs L rec23 a1 a2 a3 x4 q_1.2
  else
    some 0
def pW_J830 (xs : Nat → Int32) (L : Nat) (rec23 : Nat → Nat → Nat → Int32 → mMem → Option Int32) (a1 : Nat) (a2 : Nat) (a3 : Nat) (x4 : Int32) (b0 : Nat) (u1 : Int32) (u2 : Int32) (u3 : Int32) (M : mMem) : Option Int32 :=
  (pL_say b0 u1 u2 u3 a3 M).bind fun q_1 =>
  (sld xs L (x4 + 1)).bind fun v_2 =>
  (sld xs L (x4 + 2)).bind fun v_3 =>
  (sld xs L (x4 + 3)).bind fun v_4 =>
  if v_4 = 0 then
    pW_J863 xs L rec23 a1 a2 a3 x4 q_1.1 a2 v_2 v_3 0 q_1.2
  else
    pW_J863 xs L rec23 a1 a2 a3 x4 q_1.1 a2 v_2 v_3 1 q_1.2
def pW_J980 (xs : Nat → Int32) (L : Nat) (rec23 : Nat → Nat → Nat → Int32 → mMem → Option Int32) (a1 : Nat) (a2 : Nat) (a3 : Nat) (x4 : Int32) (M : mMem) : Option Int32 :=
  pW_J3518 xs L rec23 a1 a2 a3 x4 M
def pW_J947 (xs : Nat → Int32) (L : Nat) (rec23 : Nat → Nat → Nat → Int32 → mMem → Option Int32) (a1 : Nat) (a2 : Nat) (a3 : Nat) (x4 : Int32) (x5 : Int32) (b0 : Nat) (u1 : Int32) (u2 : Int32) (M : mMem) : Option Int32 :=
  (p12_bear b0 u1 u2 M).bind fun q_1 =>
  (p12_thrown a2 q_1.2).bind fun v_2 =>
  if v_2 = x5 then
    if x5 = 0 then
      (aldL q_1.2 a3 0).bind fun v_3 =>
      if (lg_cmp v_3 (q_1.1.toInt64)) = 0 then
        pW_J980 xs L rec23 a1 a2 a3 x4 q_1.2
      else
        some 0
    else
      pW_J980 xs L rec23 a1 a2 a3 x4 q_1.2
  else
    some 0
def pW_J920 (xs : Nat → Int32) (L : Nat) (rec23 : Nat → Nat → Nat → Int32 → mMem → Option Int32) (a1 : Nat) (a2 : Nat) (a3 : Nat) (x4 : Int32) (b0 : Nat) (u1 : Int32) (u2 : Int32) (M : mMem) : Option Int32 :=
  (pL_bear b0 u1 u2 a3 M).bind fun q_1 =>
  (sld xs L (x4 + 1)).bind fun v_2 =>
  (sld xs L (x4 + 2)).bind fun v_3 =>
  if v_3 = 0 then
    pW_J947 xs L rec23 a1 a2 a3 x4 q_1.1 a2 v_2 0 q_1.2
  else
    pW_J947 xs L rec23 a1 a2 a3 x4 q_1.1 a2 v_2 1 q_1.2
def pW_J1048 (xs : Nat → Int32) (L : Nat) (rec23 : Nat → Nat → Nat → Int32 → mMem → Option Int32) (a1 : Nat) (a2 : Nat) (a3 : Nat) (x4 : Int32) (M : mMem) : Option Int32 :=
  pW_J3518 xs L rec23 a1 a2 a3 x4 M
def pW_J1104 (xs : Nat → Int32) (L : Nat) (rec23 : Nat → Nat → Nat → Int32 → mMem → Option Int32) (a1 : Nat) (a2 : Nat) (a3 : Nat) (x4 : Int32) (M : mMem) : Option Int32 :=
  pW_J3518 xs L rec23 a1 a2 a3 x4 M
def pW_J1172 (xs : Nat → Int32) (L : Nat) (rec23 : Nat → Nat → Nat → Int32 → mMem → Option Int32) (a1 : Nat) (a2 : Nat) (a3 : Nat) (x4 : Int32) (M : mMem) : Option Int32 :=
  pW_J3518 xs L rec23 a1 a2 a3 x4 M
def pW_J1228 (xs : Nat → Int32) (L : Nat) (rec23 : Nat → Nat → Nat → Int32 → mMem → Option Int32) (a1 : Nat) (a2 : Nat) (a3 : Nat) (x4 : Int32) (M : mMem) : Option Int32 :=
  pW_J3518 xs L rec23 a1 a2 a3 x4 M
def pW_J1331 (xs : Nat → Int32) (L : Nat) (rec23 : Nat → Nat → Nat → Int32 → mMem → Option Int32) (a1 : Nat) (a2 : Nat) (a3 : Nat) (x4 : Int32) (M : mMem) : Option Int32 :=
  pW_J3518 xs L rec23 a1 a2 a3 x4 M
def pW_J1325 (xs : Nat → Int32) (L : Nat) (rec23 : Nat → Nat → Nat → Int32 → mMem → Option Int32) (a1 : Nat) (a2 : Nat) (a3 : Nat) (x4 : Int32) (w0 : Int64) (w1 : Int64) (M : mMem) : Option Int32 :=
  if (lg_cmp w0 w1) = 0 then
    pW_J1331 xs L rec23 a1 a2 a3 x4 M
  else
    some 0
def pW_J1291 (xs : Nat → Int32) (L : Nat) (rec23 : Nat → Nat → Nat → Int32 → mMem → Option Int32) (a1 : Nat) (a2 : Nat) (a3 : Nat) (x4 : Int32) (x5 : Int32) (b0 : Nat) (u1 : Int32) (u2 : Int32) (u3 : Int32) (M : mMem) : Option Int32 :=
  (p12_govern b0 u1 u2 u3 M).bind fun q_1 =>
  (p12_thrown a2 q_1.2).bind fun v_2 =>
  if v_2 = x5 then
    if x5 = 0 then
      (aldL q_1.2 a3 0).bind fun v_3 =>
      if q_1.1 = 0 then
        pW_J1325 xs L rec23 a1 a2 a3 x4 v_3 0 q_1.2
      else
        pW_J1325 xs L rec23 a1 a2 a3 x4 v_3 1 q_1.2
    else
      pW_J1331 xs L rec23 a1 a2 a3 x4 q_1.2
  else
    some 0
def pW_J1258 (xs : Nat → Int32) (L : Nat) (rec23 : Nat → Nat → Nat → Int32 → mMem → Option Int32) (a1 : Nat) (a2 : Nat) (a3 : Nat) (x4 : Int32) (b0 : Nat) (u1 : Int32) (u2 : Int32) (u3 : Int32) (M : mMem) : Option Int32 :=
  (pL_govern b0 u1 u2 u3 a3 M).bind fun q_1 =>
  (sld xs L (x4 + 1)).bind fun v_2 =>
  (sld xs L (x4 + 2)).bind fun v_3 =>
  (sld xs L (x4 + 3)).bind fun v_4 =>
  if v_4 = 0 then
    pW_J1291 xs L rec23 a1 a2 a3 x4 q_1.1 a2 v_2 v_3 0 q_1.2
  else
    pW_J1291 xs L rec23 a1 a2 a3 x4 q_1.1 a2 v_2 v_3 1 q_1.2
def pW_J1399 (xs : Nat → Int32) (L : Nat) (rec23 : Nat → Nat → Nat → Int32 → mMem → Option Int32) (a1 : Nat) (a2 : Nat) (a3 : Nat) (x4 : Int32) (M : mMem) : Option Int32 :=
  pW_J3518 xs L rec23 a1 a2 a3 x4 M
def pW_J1455 (xs : Nat → Int32) (L : Nat) (rec23 : Nat → Nat → Nat → Int32 → mMem → Option Int32) (a1 : Nat) (a2 : Nat) (a3 : Nat) (x4 : Int32) (M : mMem) : Option Int32 :=
  pW_J3518 xs L rec23 a1 a2 a3 x4 M
def pW_J1551 (xs : Nat → Int32) (L : Nat) (rec23 : Nat → Nat → Nat → Int32 → mMem → Option Int32) (a1 : Nat) (a2 : Nat) (a3 : Nat) (x4 : Int32) (M : mMem) : Option Int32 :=
  pW_J3518 xs L rec23 a1 a2 a3 x4 M
def pW_J1518 (xs : Nat → Int32) (L : Nat) (rec23 : Nat → Nat → Nat → Int32 → mMem → Option Int32) (a1 : Nat) (a2 : Nat) (a3 : Nat) (x4 : Int32) (x5 : Int32) (b0 : Nat) (u1 : Int32) (u2 : Int32) (u3 : Int32) (M : mMem) : Option Int32 :=
  (p12_would b0 u1 u2 u3 M).bind fun q_1 =>
  (p12_thrown a2 q_1.2).bind fun v_2 =>
  if v_2 = x5 then
    if x5 = 0 then
      (aldL q_1.2 a3 0).bind fun v_3 =>
      if (lg_cmp v_3 (q_1.1.toInt64)) = 0 then
        pW_J1551 xs L rec23 a1 a2 a3 x4 q_1.2
      else
        some 0
    else
      pW_J1551 xs L rec23 a1 a2 a3 x4 q_1.2
  else
    some 0
def pW_J1485 (xs : Nat → Int32) (L : Nat) (rec23 : Nat → Nat → Nat → Int32 → mMem → Option Int32) (a1 : Nat) (a2 : Nat) (a3 : Nat) (x4 : Int32) (b0 : Nat) (u1 : Int32) (u2 : Int32) (u3 : Int32) (M : mMem) : Option Int32 :=
  (pL_would b0 u1 u2 u3 a3 M).bind fun q_1 =>
  (sld xs L (x4 + 1)).bind fun v_2 =>
  (sld xs L (x4 + 2)).bind fun v_3 =>
  (sld xs L (x4 + 3)).bind fun v_4 =>
  if v_4 = 0 then
    pW_J1518 xs L rec23 a1 a2 a3 x4 q_1.1 a2 v_2 v_3 0 q_1.2
  else
    pW_J1518 xs L rec23 a1 a2 a3 x4 q_1.1 a2 v_2 v_3 1 q_1.2
def pW_J1619 (xs : Nat → Int32) (L : Nat) (rec23 : Nat → Nat → Nat → Int32 → mMem → Option Int32) (a1 : Nat) (a2 : Nat) (a3 : Nat) (x4 : Int32) (M : mMem) : Option Int32 :=
  pW_J3518 xs L rec23 a1 a2 a3 x4 M
def pW_J1687 (xs : Nat → Int32) (L : Nat) (rec23 : Nat → Nat → Nat → Int32 → mMem → Option Int32) (a1 : Nat) (a2 : Nat) (a3 : Nat) (x4 : Int32) (M : mMem) : Option Int32 :=
  pW_J3518 xs L rec23 a1 a2 a3 x4 M
def pW_J1755 (xs : Nat → Int32) (L : Nat) (rec23 : Nat → Nat → Nat → Int32 → mMem → Option Int32) (a1 : Nat) (a2 : Nat) (a3 : Nat) (x4 : Int32) (M : mMem) : Option Int32 :=
  pW_J3518 xs L rec23 a1 a2 a3 x4 M
def pW_J1811 (xs : Nat → Int32) (L : Nat) (rec23 : Nat → Nat → Nat → Int32 → mMem → Option Int32) (a1 : Nat) (a2 : Nat) (a3 : Nat) (x4 : Int32) (M : mMem) : Option Int32 :=
  pW_J3518 xs L rec23 a1 a2 a3 x4 M
def pW_J1867 (xs : Nat → Int32) (L : Nat) (rec23 : Nat → Nat → Nat → Int32 → mMem → Option Int32) (a1 : Nat) (a2 : Nat) (a3 : Nat) (x4 : Int32) (M : mMem) : Option Int32 :=
  pW_J3518 xs L rec23 a1 a2 a3 x4 M
def pW_J1931 (xs : Nat → Int32) (L : Nat) (rec23 : Nat → Nat → Nat → Int32 → mMem → Option Int32) (a1 : Nat) (a2 : Nat) (a3 : Nat) (x4 : Int32) (u0 : Int32) (b1 : Nat) (u2 : Int32) (u3 : Int32) (M : mMem) : Option Int32 :=
  (p12_cradle b1 u2 u3 M).bind fun q_1 =>
  if u0 = q_1.1 then
    pW_J3518 xs L rec23 a1 a2 a3 x4 q_1.2
  else
    some 0
def pW_J1917 (xs : Nat → Int32) (L : Nat) (rec23 : Nat → Nat → Nat → Int32 → mMem → Option Int32) (a1 : Nat) (a2 : Nat) (a3 : Nat) (x4 : Int32) (u0 : Int32) (b1 : Nat) (u2 : Int32) (M : mMem) : Option Int32 :=
  (sld xs L (x4 + 2)).bind fun v_1 =>
  if v_1 = 0 then
    pW_J1931 xs L rec23 a1 a2 a3 x4 u0 b1 u2 0 M
  else
    pW_J1931 xs L rec23 a1 a2 a3 x4 u0 b1 u2 1 M
def pW_J1899 (xs : Nat → Int32) (L : Nat) (rec23 : Nat → Nat → Nat → Int32 → mMem → Option Int32) (a1 : Nat) (a2 : Nat) (a3 : Nat) (x4 : Int32) (b0 : Nat) (u1 : Int32) (u2 : Int32) (M : mMem) : Option Int32 :=
  (p11_cradle b0 u1 u2 M).bind fun q_1 =>
  (sld xs L (x4 + 1)).bind fun v_2 =>
  if v_2 = 0 then
    pW_J1917 xs L rec23 a1 a2 a3 x4 q_1.1 a2 0 q_1.2
  else
    pW_J1917 xs L rec23 a1 a2 a3 x4 q_1.1 a2 1 q_1.2
def pW_J1885 (xs : Nat → Int32) (L : Nat) (rec23 : Nat → Nat → Nat → Int32 → mMem → Option Int32) (a1 : Nat) (a2 : Nat) (a3 : Nat) (x4 : Int32) (b0 : Nat) (u1 : Int32) (M : mMem) : Option Int32 :=
  (sld xs L (x4 + 2)).bind fun v_1 =>
  if v_1 = 0 then
    pW_J1899 xs L rec23 a1 a2 a3 x4 b0 u1 0 M
  else
    pW_J1899 xs L rec23 a1 a2 a3 x4 b0 u1 1 M
def pW_J1972 (xs : Nat → Int32) (L : Nat) (rec23 : Nat → Nat → Nat → Int32 → mMem → Option Int32) (a1 : Nat) (a2 : Nat) (a3 : Nat) (x4 : Int32) (u0 : Int32) (b1 : Nat) (u2 : Int32) (M : mMem) : Option Int32 :=
  (p12_again b1 u2 M).bind fun q_1 =>
  if u0 = q_1.1 then
    pW_J3518 xs L rec23 a1 a2 a3 x4 q_1.2
  else
    some 0
def pW_J1954 (xs : Nat → Int32) (L : Nat) (rec23 : Nat → Nat → Nat → Int32 → mMem → Option Int32) (a1 : Nat) (a2 : Nat) (a3 : Nat) (x4 : Int32) (b0 : Nat) (u1 : Int32) (M : mMem) : Option Int32 :=
  (p11_again b0 u1 M).bind fun q_1 =>
  (sld xs L (x4 + 1)).bind fun v_2 =>
  if v_2 = 0 then
    pW_J1972 xs L rec23 a1 a2 a3 x4 q_1.1 a2 0 q_1.2
  else
    pW_J1972 xs L rec23 a1 a2 a3 x4 q_1.1 a2 1 q_1.2
def pW_J2033 (xs : Nat → Int32) (L : Nat) (rec23 : Nat → Nat → Nat → Int32 → mMem → Option Int32) (a1 : Nat) (a2 : Nat) (a3 : Nat) (x4 : Int32) (M : mMem) : Option Int32 :=
  pW_J3518 xs L rec23 a1 a2 a3 x4 M
def pW_J2089 (xs : Nat → Int32) (L : Nat) (rec23 : Nat → Nat → Nat → Int32 → mMem → Option Int32) (a1 : Nat) (a2 : Nat) (a3 : Nat) (x4 : Int32) (M : mMem) : Option Int32 :=
  pW_J3518 xs L rec23 a1 a2 a3 x4 M
def pW_J2145 (xs : Nat → Int32) (L : Nat) (rec23 : Nat → Nat → Nat → Int32 → mMem → Option Int32) (a1 : Nat) (a2 : Nat) (a3 : Nat) (x4 : Int32) (M : mMem) : Option Int32 :=
  pW_J3518 xs L rec23 a1 a2 a3 x4 M
def pW_J2181 (xs : Nat → Int32) (L : Nat) (rec23 : Nat → Nat → Nat → Int32 → mMem → Option Int32) (a1 : Nat) (a2 : Nat) (a3 : Nat) (x4 : Int32) (u0 : Int32) (b1 : Nat) (u2 : Int32) (M : mMem) : Option Int32 :=
  (p12_match b1 u2 M).bind fun q_1 =>
  if u0 = q_1.1 then
    pW_J3518 xs L rec23 a1 a2 a3 x4 q_1.2
  else
    some 0
def pW_J2163 (xs : Nat → Int32) (L : Nat) (rec23 : Nat → Nat → Nat → Int32 → mMem → Option Int32) (a1 : Nat) (a2 : Nat) (a3 : Nat) (x4 : Int32) (b0 : Nat) (u1 : Int32) (M : mMem) : Option Int32 :=
  (p11_match b0 u1 M).bind fun q_1 =>
  (sld xs L (x4 + 1)).bind fun v_2 =>
  if v_2 = 0 then
    pW_J2181 xs L rec23 a1 a2 a3 x4 q_1.1 a2 0 q_1.2
  else
    pW_J2181 xs L rec23 a1 a2 a3 x4 q_1.1 a2 1 q_1.2
def pW_J2242 (xs : Nat → Int32) (L : Nat) (rec23 : Nat → Nat → Nat → Int32 → mMem → Option Int32) (a1 : Nat) (a2 : Nat) (a3 : Nat) (x4 : Int32) (M : mMem) : Option Int32 :=
  pW_J3518 xs L rec23 a1 a2 a3 x4 M
def pW_J2298 (xs : Nat → Int32) (L : Nat) (rec23 : Nat → Nat → Nat → Int32 → mMem → Option Int32) (a1 : Nat) (a2 : Nat) (a3 : Nat) (x4 : Int32) (M : mMem) : Option Int32 :=
  pW_J3518 xs L rec23 a1 a2 a3 x4 M
def pW_J2379 (xs : Nat → Int32) (L : Nat) (rec23 : Nat → Nat → Nat → Int32 → mMem → Option Int32) (a1 : Nat) (a2 : Nat) (a3 : Nat) (x4 : Int32) (M : mMem) : Option Int32 :=
  pW_J3518 xs L rec23 a1 a2 a3 x4 M
def pW_J2455 (xs : Nat → Int32) (L : Nat) (rec23 : Nat → Nat → Nat → Int32 → mMem → Option Int32) (a1 : Nat) (a2 : Nat) (a3 : Nat) (x4 : Int32) (M : mMem) : Option Int32 :=
  pW_J3518 xs L rec23 a1 a2 a3 x4 M
def pW_J2449 (xs : Nat → Int32) (L : Nat) (rec23 : Nat → Nat → Nat → Int32 → mMem → Option Int32) (a1 : Nat) (a2 : Nat) (a3 : Nat) (x4 : Int32) (w0 : Int64) (w1 : Int64) (M : mMem) : Option Int32 :=
  if (lg_cmp w0 w1) = 0 then
    pW_J2455 xs L rec23 a1 a2 a3 x4 M
  else
    some 0
def pW_J2536 (xs : Nat → Int32) (L : Nat) (rec23 : Nat → Nat → Nat → Int32 → mMem → Option Int32) (a1 : Nat) (a2 : Nat) (a3 : Nat) (x4 : Int32) (M : mMem) : Option Int32 :=
  pW_J3518 xs L rec23 a1 a2 a3 x4 M
def pW_J2592 (xs : Nat → Int32) (L : Nat) (rec23 : Nat → Nat → Nat → Int32 → mMem → Option Int32) (a1 : Nat) (a2 : Nat) (a3 : Nat) (x4 : Int32) (M : mMem) : Option Int32 :=
  pW_J3518 xs L rec23 a1 a2 a3 x4 M
def pW_J2648 (xs : Nat → Int32) (L : Nat) (rec23 : Nat → Nat → Nat → Int32 → mMem → Option Int32) (a1 : Nat) (a2 : Nat) (a3 : Nat) (x4 : Int32) (M : mMem) : Option Int32 :=
  pW_J3518 xs L rec23 a1 a2 a3 x4 M
def pW_J2729 (xs : Nat → Int32) (L : Nat) (rec23 : Nat → Nat → Nat → Int32 → mMem → Option Int32) (a1 : Nat) (a2 : Nat) (a3 : Nat) (x4 : Int32) (M : mMem) : Option Int32 :=
  pW_J3518 xs L rec23 a1 a2 a3 x4 M
def pW_J2785 (xs : Nat → Int32) (L : Nat) (rec23 : Nat → Nat → Nat → Int32 → mMem → Option Int32) (a1 : Nat) (a2 : Nat) (a3 : Nat) (x4 : Int32) (M : mMem) : Option Int32 :=
  pW_J3518 xs L rec23 a1 a2 a3 x4 M
def pW_J2841 (xs : Nat → Int32) (L : Nat) (rec23 : Nat → Nat → Nat → Int32 → mMem → Option Int32) (a1 : Nat) (a2 : Nat) (a3 : Nat) (x4 : Int32) (M : mMem) : Option Int32 :=
  pW_J3518 xs L rec23 a1 a2 a3 x4 M
def pW_J2934 (xs : Nat → Int32) (L : Nat) (rec23 : Nat → Nat → Nat → Int32 → mMem → Option Int32) (a1 : Nat) (a2 : Nat) (a3 : Nat) (x4 : Int32) (M : mMem) : Option Int32 :=
  pW_J3518 xs L rec23 a1 a2 a3 x4 M
def pW_J3108 (xs : Nat → Int32) (L : Nat) (rec23 : Nat → Nat → Nat → Int32 → mMem → Option Int32) (a1 : Nat) (a2 : Nat) (a3 : Nat) (x4 : Int32) (M : mMem) : Option Int32 :=
  pW_J3518 xs L rec23 a1 a2 a3 x4 M
def pW_J3075 (xs : Nat → Int32) (L : Nat) (rec23 : Nat → Nat → Nat → Int32 → mMem → Option Int32) (a1 : Nat) (a2 : Nat) (a3 : Nat) (x4 : Int32) (x5 : Int32) (b0 : Nat) (u1 : Int32) (u2 : Int32) (u3 : Int32) (M : mMem) : Option Int32 :=
  (p12_ahead b0 u1 u2 u3 M).bind fun q_1 =>
  (p12_thrown a2 q_1.2).bind fun v_2 =>
  if v_2 = x5 then
    if x5 = 0 then
      (aldL q_1.2 a3 0).bind fun v_3 =>
      if (lg_cmp v_3 (q_1.1.toInt64)) = 0 then
        pW_J3108 xs L rec23 a1 a2 a3 x4 q_1.2
      else
        some 0
    else
      pW_J3108 xs L rec23 a1 a2 a3 x4 q_1.2
  else
    some 0
def pW_J3042 (xs : Nat → Int32) (L : Nat) (rec23 : Nat → Nat → Nat → Int32 → mMem → Option Int32) (a1 : Nat) (a2 : Nat) (a3 : Nat) (x4 : Int32) (b0 : Nat) (u1 : Int32) (u2 : Int32) (u3 : Int32) (M : mMem) : Option Int32 :=
  (pL_ahead b0 u1 u2 u3 a3 M).bind fun q_1 =>
  (sld xs L (x4 + 1)).bind fun v_2 =>
  (sld xs L (x4 + 2)).bind fun v_3 =>
  (sld xs L (x4 + 3)).bind fun v_4 =>
  if v_4 = 0 then
    pW_J3075 xs L rec23 a1 a2 a3 x4 q_1.1 a2 v_2 v_3 0 q_1.2
  else
    pW_J3075 xs L rec23 a1 a2 a3 x4 q_1.1 a2 v_2 v_3 1 q_1.2
def pW_J3192 (xs : Nat → Int32) (L : Nat) (rec23 : Nat → Nat → Nat → Int32 → mMem → Option Int32) (a1 : Nat) (a2 : Nat) (a3 : Nat) (x4 : Int32) (M : mMem) : Option Int32 :=
  pW_J3518 xs L rec23 a1 a2 a3 x4 M
def pW_J3159 (xs : Nat → Int32) (L : Nat) (rec23 : Nat → Nat → Nat → Int32 → mMem → Option Int32) (a1 : Nat) (a2 : Nat) (a3 : Nat) (x4 : Int32) (x5 : Int32) (b0 : Nat) (u1 : Int32) (u2 : Int32) (M : mMem) : Option Int32 :=
  (p12_trial b0 u1 u2 M).bind fun q_1 =>
  (p12_thrown a2 q_1.2).bind fun v_2 =>
  if v_2 = x5 then
    if x5 = 0 then
      (aldL q_1.2 a3 0).bind fun v_3 =>
      if (lg_cmp v_3 (q_1.1.toInt64)) = 0 then
        pW_J3192 xs L rec23 a1 a2 a3 x4 q_1.2
      else
        some 0
    else
      pW_J3192 xs L rec23 a1 a2 a3 x4 q_1.2
  else
    some 0
def pW_J3132 (xs : Nat → Int32) (L : Nat) (rec23 : Nat → Nat → Nat → Int32 → mMem → Option Int32) (a1 : Nat) (a2 : Nat) (a3 : Nat) (x4 : Int32) (b0 : Nat) (u1 : Int32) (u2 : Int32) (M : mMem) : Option Int32 :=
  (pL_trial b0 u1 u2 a3 M).bind fun q_1 =>
  (sld xs L (x4 + 1)).bind fun v_2 =>
  (sld xs L (x4 + 2)).bind fun v_3 =>
  if v_3 = 0 then
    pW_J3159 xs L rec23 a1 a2 a3 x4 q_1.1 a2 v_2 0 q_1.2
  else
    pW_J3159 xs L rec23 a1 a2 a3 x4 q_1.1 a2 v_2 1 q_1.2
def pW_J3276 (xs : Nat → Int32) (L : Nat) (rec23 : Nat → Nat → Nat → Int32 → mMem → Option Int32) (a1 : Nat) (a2 : Nat) (a3 : Nat) (x4 : Int32) (M : mMem) : Option Int32 :=
  pW_J3518 xs L rec23 a1 a2 a3 x4 M
def pW_J3243 (xs : Nat → Int32) (L : Nat) (rec23 : Nat → Nat → Nat → Int32 → mMem → Option Int32) (a1 : Nat) (a2 : Nat) (a3 : Nat) (x4 : Int32) (x5 : Int32) (b0 : Nat) (u1 : Int32) (u2 : Int32) (M : mMem) : Option Int32 :=
  (p12_span b0 u1 u2 M).bind fun q_1 =>
  (p12_thrown a2 q_1.2).bind fun v_2 =>
  if v_2 = x5 then
    if x5 = 0 then
      (aldL q_1.2 a3 0).bind fun v_3 =>
      if (lg_cmp v_3 (q_1.1.toInt64)) = 0 then
        pW_J3276 xs L rec23 a1 a2 a3 x4 q_1.2
      else
        some 0
    else
      pW_J3276 xs L rec23 a1 a2 a3 x4 q_1.2
  else
    some 0
def pW_J3216 (xs : Nat → Int32) (L : Nat) (rec23 : Nat → Nat → Nat → Int32 → mMem → Option Int32) (a1 : Nat) (a2 : Nat) (a3 : Nat) (x4 : Int32) (b0 : Nat) (u1 : Int32) (u2 : Int32) (M : mMem) : Option Int32 :=
  (pL_span b0 u1 u2 a3 M).bind fun q_1 =>
  (sld xs L (x4 + 1)).bind fun v_2 =>
  (sld xs L (x4 + 2)).bind fun v_3 =>
  if v_3 = 0 then
    pW_J3243 xs L rec23 a1 a2 a3 x4 q_1.1 a2 v_2 0 q_1.2
  else
    pW_J3243 xs L rec23 a1 a2 a3 x4 q_1.1 a2 v_2 1 q_1.2
def pW_J3360 (xs : Nat → Int32) (L : Nat) (rec23 : Nat → Nat → Nat → Int32 → mMem → Option Int32) (a1 : Nat) (a2 : Nat) (a3 : Nat) (x4 : Int32) (M : mMem) : Option Int32 :=
  pW_J3518 xs L rec23 a1 a2 a3 x4 M
def pW_J3327 (xs : Nat → Int32) (L : Nat) (rec23 : Nat → Nat → Nat → Int32 → mMem → Option Int32) (a1 : Nat) (a2 : Nat) (a3 : Nat) (x4 : Int32) (x5 : Int32) (b0 : Nat) (u1 : Int32) (u2 : Int32) (M : mMem) : Option Int32 :=
  (p12_led b0 u1 u2 M).bind fun q_1 =>
  (p12_thrown a2 q_1.2).bind fun v_2 =>
  if v_2 = x5 then
    if x5 = 0 then
      (aldL q_1.2 a3 0).bind fun v_3 =>
      if (lg_cmp v_3 (q_1.1.toInt64)) = 0 then
        pW_J3360 xs L rec23 a1 a2 a3 x4 q_1.2
      else
        some 0
    else
      pW_J3360 xs L rec23 a1 a2 a3 x4 q_1.2
  else
    some 0
def pW_J3300 (xs : Nat → Int32) (L : Nat) (rec23 : Nat → Nat → Nat → Int32 → mMem → Option Int32) (a1 : Nat) (a2 : Nat) (a3 : Nat) (x4 : Int32) (b0 : Nat) (u1 : Int32) (u2 : Int32) (M : mMem) : Option Int32 :=
  (pL_led b0 u1 u2 a3 M).bind fun q_1 =>
  (sld xs L (x4 + 1)).bind fun v_2 =>
  (sld xs L (x4 + 2)).bind fun v_3 =>
  if v_3 = 0 then
    pW_J3327 xs L rec23 a1 a2 a3 x4 q_1.1 a2 v_2 0 q_1.2
  else
    pW_J3327 xs L rec23 a1 a2 a3 x4 q_1.1 a2 v_2 1 q_1.2
def pW_J3428 (xs : Nat → Int32) (L : Nat) (rec23 : Nat → Nat → Nat → Int32 → mMem → Option Int32) (a1 : Nat) (a2 : Nat) (a3 : Nat) (x4 : Int32) (M : mMem) : Option Int32 :=
  pW_J3518 xs L rec23 a1 a2 a3 x4 M
def pW_L23 (xs : Nat → Int32) (L : Nat) : Nat → Nat → Nat → Nat → Int32 → mMem → Option Int32
  | 0, _, _, _, _, _ => none
  | n + 1, a1, a2, a3, x4, M =>
    if ((Int32.ofNat L) - 6) < x4 then
      some 1
    else
      (sld xs L x4).bind fun v_2 =>
      swI (v_2 &&& 63) (
        pW_J3518 xs L (pW_L23 xs L n) a1 a2 a3 x4 M) [(0,
        (sld xs L (x4 + 1)).bind fun v_3 =>
        (sld xs L (x4 + 2)).bind fun v_4 =>
        (sld xs L (x4 + 3)).bind fun v_5 =>
        (sld xs L (x4 + 4)).bind fun v_6 =>
        (sld xs L (x4 + 5)).bind fun v_7 =>
        (p11_feed a1 v_3 v_4 v_5 v_6 v_7 M).bind fun q_8 =>
        (sld xs L (x4 + 1)).bind fun v_9 =>
        (sld xs L (x4 + 2)).bind fun v_10 =>
        (sld xs L (x4 + 3)).bind fun v_11 =>
        (sld xs L (x4 + 4)).bind fun v_12 =>
        (sld xs L (x4 + 5)).bind fun v_13 =>
        (p12_feed a2 v_9 v_10 v_11 v_12 v_13 q_8.2).bind fun q_14 =>
        if q_8.1 = q_14.1 then
          pW_J3518 xs L (pW_L23 xs L n) a1 a2 a3 x4 q_14.2
        else
          some 0), (1,
        (sld xs L (x4 + 1)).bind fun v_15 =>
        (p11_end a1 v_15 M).bind fun q_16 =>
        (sld xs L (x4 + 1)).bind fun v_17 =>
        (p12_end a2 v_17 q_16.2).bind fun q_18 =>
        if q_16.1 = q_18.1 then
          pW_J3518 xs L (pW_L23 xs L n) a1 a2 a3 x4 q_18.2
        else
          some 0), (2,
        (pL_family a1 a3 M).bind fun q_19 =>
        (p12_family a2 q_19.2).bind fun q_20 =>
        (p12_thrown a2 q_20.2).bind fun v_21 =>
        if v_21 = q_19.1 then
          if q_19.1 = 0 then
            (aldL q_20.2 a3 0).bind fun v_22 =>
            if (lg_cmp v_22 (q_20.1.toInt64)) = 0 then
              pW_J443 xs L (pW_L23 xs L n) a1 a2 a3 x4 q_20.2
            else
              some 0
          else
            pW_J443 xs L (pW_L23 xs L n) a1 a2 a3 x4 q_20.2
        else
          some 0), (3,
        (pL_law a1 a3 M).bind fun q_23 =>
        (p12_law a2 q_23.2).bind fun q_24 =>
        (p12_thrown a2 q_24.2).bind fun v_25 =>
        if v_25 = q_23.1 then
          if q_23.1 = 0 then
            (aldL q_24.2 a3 0).bind fun v_26 =>
            if (lg_cmp v_26 (q_24.1.toInt64)) = 0 then
              pW_J487 xs L (pW_L23 xs L n) a1 a2 a3 x4 q_24.2
            else
              some 0
          else
            pW_J487 xs L (pW_L23 xs L n) a1 a2 a3 x4 q_24.2
        else
          some 0), (4,
        (p11_fault a1 M).bind fun v_27 =>
        (p12_fault a2 M).bind fun q_28 =>
        if v_27 = q_28.1 then
          pW_J3518 xs L (pW_L23 xs L n) a1 a2 a3 x4 q_28.2
        else
          some 0), (5,
        (sld xs L (x4 + 1)).bind fun v_29 =>
        (sld xs L (x4 + 2)).bind fun v_30 =>
        (pL_person a1 v_29 v_30 a3 M).bind fun q_31 =>
        (sld xs L (x4 + 1)).bind fun v_32 =>
        (sld xs L (x4 + 2)).bind fun v_33 =>
        (p12_person a2 v_32 v_33 q_31.2).bind fun q_34 =>
        (p12_thrown a2 q_34.2).bind fun v_35 =>
        if v_35 = q_31.1 then
          if q_31.1 = 0 then
            (aldL q_34.2 a3 0).bind fun v_36 =>
            if (lg_cmp v_36 (q_34.1.toInt64)) = 0 then
              pW_J568 xs L (pW_L23 xs L n) a1 a2 a3 x4 q_34.2
            else
              some 0
          else
            pW_J568 xs L (pW_L23 xs L n) a1 a2 a3 x4 q_34.2
        else
          some 0), (6,
        (sld xs L (x4 + 1)).bind fun v_37 =>
        (sld xs L (x4 + 2)).bind fun v_38 =>
        (pL_lent a1 v_37 v_38 a3 M).bind fun q_39 =>
        (sld xs L (x4 + 1)).bind fun v_40 =>
        (sld xs L (x4 + 2)).bind fun v_41 =>
        (p12_lent a2 v_40 v_41 q_39.2).bind fun q_42 =>
        (p12_thrown a2 q_42.2).bind fun v_43 =>
        if v_43 = q_39.1 then
          if q_39.1 = 0 then
            (aldL q_42.2 a3 0).bind fun v_44 =>
            if (lg_cmp v_44 (q_42.1.toInt64)) = 0 then
              pW_J636 xs L (pW_L23 xs L n) a1 a2 a3 x4 q_42.2
            else
              some 0
          else
            pW_J636 xs L (pW_L23 xs L n) a1 a2 a3 x4 q_42.2
        else
          some 0), (7,
        (sld xs L (x4 + 1)).bind fun v_45 =>
        (sld xs L (x4 + 2)).bind fun v_46 =>
        (sld xs L (x4 + 3)).bind fun v_47 =>
        if v_47 = 0 then
          pW_J666 xs L (pW_L23 xs L n) a1 a2 a3 x4 a1 v_45 v_46 0 M
        else
          pW_J666 xs L (pW_L23 xs L n) a1 a2 a3 x4 a1 v_45 v_46 1 M), (8,
        (sld xs L (x4 + 1)).bind fun v_48 =>
        (sld xs L (x4 + 2)).bind fun v_49 =>
        (pL_gap a1 v_48 v_49 a3 M).bind fun q_50 =>
        (sld xs L (x4 + 1)).bind fun v_51 =>
        (sld xs L (x4 + 2)).bind fun v_52 =>
        (p12_gap a2 v_51 v_52 q_50.2).bind fun q_53 =>
        (p12_thrown a2 q_53.2).bind fun v_54 =>
        if v_54 = q_50.1 then
          if q_50.1 = 0 then
            (aldL q_53.2 a3 0).bind fun v_55 =>
            if (lg_cmp v_55 (q_53.1.toInt64)) = 0 then
              pW_J800 xs L (pW_L23 xs L n) a1 a2 a3 x4 q_53.2
            else
              some 0
          else
            pW_J800 xs L (pW_L23 xs L n) a1 a2 a3 x4 q_53.2
        else
          some 0), (9,
        (sld xs L (x4 + 1)).bind fun v_56 =>
        (sld xs L (x4 + 2)).bind fun v_57 =>
        (sld xs L (x4 + 3)).bind fun v_58 =>
        if v_58 = 0 then
          pW_J830 xs L (pW_L23 xs L n) a1 a2 a3 x4 a1 v_56 v_57 0 M
        else
          pW_J830 xs L (pW_L23 xs L n) a1 a2 a3 x4 a1 v_56 v_57 1 M), (10,
        (sld xs L (x4 + 1)).bind fun v_59 =>
        (sld xs L (x4 + 2)).bind fun v_60 =>
        if v_60 = 0 then
          pW_J920 xs L (pW_L23 xs L n) a1 a2 a3 x4 a1 v_59 0 M
        else
          pW_J920 xs L (pW_L23 xs L n) a1 a2 a3 x4 a1 v_59 1 M), (11,
        (sld xs L (x4 + 1)).bind fun v_61 =>
        (sld xs L (x4 + 2)).bind fun v_62 =>
        (pL_wed a1 v_61 v_62 a3 M).bind fun q_63 =>
        (sld xs L (x4 + 1)).bind fun v_64 =>
        (sld xs L (x4 + 2)).bind fun v_65 =>
        (p12_wed a2 v_64 v_65 q_63.2).bind fun q_66 =>
        (p12_thrown a2 q_66.2).bind fun v_67 =>
        if v_67 = q_63.1 then
          if q_63.1 = 0 then
            (aldL q_66.2 a3 0).bind fun v_68 =>
            if (lg_cmp v_68 (q_66.1.toInt64)) = 0 then
              pW_J1048 xs L (pW_L23 xs L n) a1 a2 a3 x4 q_66.2
            else
              some 0
          else
            pW_J1048 xs L (pW_L23 xs L n) a1 a2 a3 x4 q_66.2
        else
          some 0), (12,
        (sld xs L (x4 + 1)).bind fun v_69 =>
        (pL_part a1 v_69 a3 M).bind fun q_70 =>
        (sld xs L (x4 + 1)).bind fun v_71 =>
        (p12_part a2 v_71 q_70.2).bind fun q_72 =>
        (p12_thrown a2 q_72.2).bind fun v_73 =>
        if v_73 = q_70.1 then
          if q_70.1 = 0 then
            (aldL q_72.2 a3 0).bind fun v_74 =>
            if (lg_cmp v_74 (q_72.1.toInt64)) = 0 then
              pW_J1104 xs L (pW_L23 xs L n) a1 a2 a3 x4 q_72.2
            else
              some 0
          else
            pW_J1104 xs L (pW_L23 xs L n) a1 a2 a3 x4 q_72.2
        else
          some 0), (13,
        (sld xs L (x4 + 1)).bind fun v_75 =>
        (sld xs L (x4 + 2)).bind fun v_76 =>
        (pL_lend a1 v_75 v_76 a3 M).bind fun q_77 =>
        (sld xs L (x4 + 1)).bind fun v_78 =>
        (sld xs L (x4 + 2)).bind fun v_79 =>
        (p12_lend a2 v_78 v_79 q_77.2).bind fun q_80 =>
        (p12_thrown a2 q_80.2).bind fun v_81 =>
        if v_81 = q_77.1 then
          if q_77.1 = 0 then
            (aldL q_80.2 a3 0).bind fun v_82 =>
            if (lg_cmp v_82 (q_80.1.toInt64)) = 0 then
              pW_J1172 xs L (pW_L23 xs L n) a1 a2 a3 x4 q_80.2
            else
              some 0
          else
            pW_J1172 xs L (pW_L23 xs L n) a1 a2 a3 x4 q_80.2
        else
          some 0), (14,
        (sld xs L (x4 + 1)).bind fun v_83 =>
        (pL_use a1 v_83 a3 M).bind fun q_84 =>
        (sld xs L (x4 + 1)).bind fun v_85 =>
        (p12_use a2 v_85 q_84.2).bind fun q_86 =>
        (p12_thrown a2 q_86.2).bind fun v_87 =>
        if v_87 = q_84.1 then
          if q_84.1 = 0 then
            (aldL q_86.2 a3 0).bind fun v_88 =>
            if (lg_cmp v_88 (q_86.1.toInt64)) = 0 then
              pW_J1228 xs L (pW_L23 xs L n) a1 a2 a3 x4 q_86.2
            else
              some 0
          else
            pW_J1228 xs L (pW_L23 xs L n) a1 a2 a3 x4 q_86.2
        else
          some 0), (15,
        (sld xs L (x4 + 1)).bind fun v_89 =>
        (sld xs L (x4 + 2)).bind fun v_90 =>
        (sld xs L (x4 + 3)).bind fun v_91 =>
        if v_91 = 0 then
          pW_J1258 xs L (pW_L23 xs L n) a1 a2 a3 x4 a1 v_89 v_90 0 M
        else
          pW_J1258 xs L (pW_L23 xs L n) a1 a2 a3 x4 a1 v_89 v_90 1 M), (16,
        (sld xs L (x4 + 1)).bind fun v_92 =>
        (sld xs L (x4 + 2)).bind fun v_93 =>
        (pL_stern a1 v_92 v_93 a3 M).bind fun q_94 =>
        (sld xs L (x4 + 1)).bind fun v_95 =>
        (sld xs L (x4 + 2)).bind fun v_96 =>
        (p12_stern a2 v_95 v_96 q_94.2).bind fun q_97 =>
        (p12_thrown a2 q_97.2).bind fun v_98 =>
        if v_98 = q_94.1 then
          if q_94.1 = 0 then
            (aldL q_97.2 a3 0).bind fun v_99 =>
            if (lg_cmp v_99 (q_97.1.toInt64)) = 0 then
              pW_J1399 xs L (pW_L23 xs L n) a1 a2 a3 x4 q_97.2
            else
              some 0
          else
            pW_J1399 xs L (pW_L23 xs L n) a1 a2 a3 x4 q_97.2
        else
          some 0), (17,
        (sld xs L (x4 + 1)).bind fun v_100 =>
        (pL_days a1 v_100 a3 M).bind fun q_101 =>
        (sld xs L (x4 + 1)).bind fun v_102 =>
        (p12_days a2 v_102 q_101.2).bind fun q_103 =>
        (p12_thrown a2 q_103.2).bind fun v_104 =>
        if v_104 = q_101.1 then
          if q_101.1 = 0 then
            (aldL q_103.2 a3 0).bind fun v_105 =>
            if (lg_cmp v_105 (q_103.1.toInt64)) = 0 then
              pW_J1455 xs L (pW_L23 xs L n) a1 a2 a3 x4 q_103.2
            else
              some 0
          else
            pW_J1455 xs L (pW_L23 xs L n) a1 a2 a3 x4 q_103.2
        else
          some 0), (18,
        (sld xs L (x4 + 1)).bind fun v_106 =>
        (sld xs L (x4 + 2)).bind fun v_107 =>
        (sld xs L (x4 + 3)).bind fun v_108 =>
        if v_108 = 0 then
          pW_J1485 xs L (pW_L23 xs L n) a1 a2 a3 x4 a1 v_106 v_107 0 M
        else
          pW_J1485 xs L (pW_L23 xs L n) a1 a2 a3 x4 a1 v_106 v_107 1 M), (19,
        (sld xs L (x4 + 1)).bind fun v_109 =>
        (sld xs L (x4 + 2)).bind fun v_110 =>
        (pL_fewest a1 v_109 v_110 a3 M).bind fun q_111 =>
        (sld xs L (x4 + 1)).bind fun v_112 =>
        (sld xs L (x4 + 2)).bind fun v_113 =>
        (p12_fewest a2 v_112 v_113 q_111.2).bind fun q_114 =>
        (p12_thrown a2 q_114.2).bind fun v_115 =>
        if v_115 = q_111.1 then
          if q_111.1 = 0 then
            (aldL q_114.2 a3 0).bind fun v_116 =>
            if (lg_cmp v_116 (q_114.1.toInt64)) = 0 then
              pW_J1619 xs L (pW_L23 xs L n) a1 a2 a3 x4 q_114.2
            else
              some 0
          else
            pW_J1619 xs L (pW_L23 xs L n) a1 a2 a3 x4 q_114.2
        else
          some 0), (20,
        (sld xs L (x4 + 1)).bind fun v_117 =>
        (sld xs L (x4 + 2)).bind fun v_118 =>
        (pL_first a1 v_117 v_118 a3 M).bind fun q_119 =>
        (sld xs L (x4 + 1)).bind fun v_120 =>
        (sld xs L (x4 + 2)).bind fun v_121 =>
        (p12_first a2 v_120 v_121 q_119.2).bind fun q_122 =>
        (p12_thrown a2 q_122.2).bind fun v_123 =>
        if v_123 = q_119.1 then
          if q_119.1 = 0 then
            (aldL q_122.2 a3 0).bind fun v_124 =>
            if (lg_cmp v_124 (q_122.1.toInt64)) = 0 then
              pW_J1687 xs L (pW_L23 xs L n) a1 a2 a3 x4 q_122.2
            else
              some 0
          else
            pW_J1687 xs L (pW_L23 xs L n) a1 a2 a3 x4 q_122.2
        else
          some 0), (21,
        (sld xs L (x4 + 1)).bind fun v_125 =>
        (sld xs L (x4 + 2)).bind fun v_126 =>
        (pL_can a1 v_125 v_126 a3 M).bind fun q_127 =>
        (sld xs L (x4 + 1)).bind fun v_128 =>
        (sld xs L (x4 + 2)).bind fun v_129 =>
        (p12_can a2 v_128 v_129 q_127.2).bind fun q_130 =>
        (p12_thrown a2 q_130.2).bind fun v_131 =>
        if v_131 = q_127.1 then
          if q_127.1 = 0 then
            (aldL q_130.2 a3 0).bind fun v_132 =>
            if (lg_cmp v_132 (q_130.1.toInt64)) = 0 then
              pW_J1755 xs L (pW_L23 xs L n) a1 a2 a3 x4 q_130.2
            else
              some 0
          else
            pW_J1755 xs L (pW_L23 xs L n) a1 a2 a3 x4 q_130.2
        else
          some 0), (22,
        (sld xs L (x4 + 1)).bind fun v_133 =>
        (pL_harsh a1 v_133 a3 M).bind fun q_134 =>
        (sld xs L (x4 + 1)).bind fun v_135 =>
        (p12_harsh a2 v_135 q_134.2).bind fun q_136 =>
        (p12_thrown a2 q_136.2).bind fun v_137 =>
        if v_137 = q_134.1 then
          if q_134.1 = 0 then
            (aldL q_136.2 a3 0).bind fun v_138 =>
            if (lg_cmp v_138 (q_136.1.toInt64)) = 0 then
              pW_J1811 xs L (pW_L23 xs L n) a1 a2 a3 x4 q_136.2
            else
              some 0
          else
            pW_J1811 xs L (pW_L23 xs L n) a1 a2 a3 x4 q_136.2
        else
          some 0), (23,
        (sld xs L (x4 + 1)).bind fun v_139 =>
        (pL_kind a1 v_139 a3 M).bind fun q_140 =>
        (sld xs L (x4 + 1)).bind fun v_141 =>
        (p12_kind a2 v_141 q_140.2).bind fun q_142 =>
        (p12_thrown a2 q_142.2).bind fun v_143 =>
        if v_143 = q_140.1 then
          if q_140.1 = 0 then
            (aldL q_142.2 a3 0).bind fun v_144 =>
            if (lg_cmp v_144 (q_142.1.toInt64)) = 0 then
              pW_J1867 xs L (pW_L23 xs L n) a1 a2 a3 x4 q_142.2
            else
              some 0
          else
            pW_J1867 xs L (pW_L23 xs L n) a1 a2 a3 x4 q_142.2
        else
          some 0), (24,
        (sld xs L (x4 + 1)).bind fun v_145 =>
        if v_145 = 0 then
          pW_J1885 xs L (pW_L23 xs L n) a1 a2 a3 x4 a1 0 M
        else
          pW_J1885 xs L (pW_L23 xs L n) a1 a2 a3 x4 a1 1 M), (25,
        (sld xs L (x4 + 1)).bind fun v_146 =>
        if v_146 = 0 then
          pW_J1954 xs L (pW_L23 xs L n) a1 a2 a3 x4 a1 0 M
        else
          pW_J1954 xs L (pW_L23 xs L n) a1 a2 a3 x4 a1 1 M), (26,
        (sld xs L (x4 + 1)).bind fun v_147 =>
        (pL_over a1 v_147 a3 M).bind fun q_148 =>
        (sld xs L (x4 + 1)).bind fun v_149 =>
        (p12_over a2 v_149 q_148.2).bind fun q_150 =>
        (p12_thrown a2 q_150.2).bind fun v_151 =>
        if v_151 = q_148.1 then
          if q_148.1 = 0 then
            (aldL q_150.2 a3 0).bind fun v_152 =>
            if (lg_cmp v_152 (q_150.1.toInt64)) = 0 then
              pW_J2033 xs L (pW_L23 xs L n) a1 a2 a3 x4 q_150.2
            else
              some 0
          else
            pW_J2033 xs L (pW_L23 xs L n) a1 a2 a3 x4 q_150.2
        else
          some 0), (27,
        (sld xs L (x4 + 1)).bind fun v_153 =>
        (pL_said a1 v_153 a3 M).bind fun q_154 =>
        (sld xs L (x4 + 1)).bind fun v_155 =>
        (p12_said a2 v_155 q_154.2).bind fun q_156 =>
        (p12_thrown a2 q_156.2).bind fun v_157 =>
        if v_157 = q_154.1 then
          if q_154.1 = 0 then
            (aldL q_156.2 a3 0).bind fun v_158 =>
            if (lg_cmp v_158 (q_156.1.toInt64)) = 0 then
              pW_J2089 xs L (pW_L23 xs L n) a1 a2 a3 x4 q_156.2
            else
              some 0
          else
            pW_J2089 xs L (pW_L23 xs L n) a1 a2 a3 x4 q_156.2
        else
          some 0), (28,
        (sld xs L (x4 + 1)).bind fun v_159 =>
        (pL_ask a1 v_159 a3 M).bind fun q_160 =>
        (sld xs L (x4 + 1)).bind fun v_161 =>
        (p12_ask a2 v_161 q_160.2).bind fun q_162 =>
        (p12_thrown a2 q_162.2).bind fun v_163 =>
        if v_163 = q_160.1 then
          if q_160.1 = 0 then
            (aldL q_162.2 a3 0).bind fun v_164 =>
            if (lg_cmp v_164 (q_162.1.toInt64)) = 0 then
              pW_J2145 xs L (pW_L23 xs L n) a1 a2 a3 x4 q_162.2
            else
              some 0
          else
            pW_J2145 xs L (pW_L23 xs L n) a1 a2 a3 x4 q_162.2
        else
          some 0), (29,
        (sld xs L (x4 + 1)).bind fun v_165 =>
        if v_165 = 0 then
          pW_J2163 xs L (pW_L23 xs L n) a1 a2 a3 x4 a1 0 M
        else
          pW_J2163 xs L (pW_L23 xs L n) a1 a2 a3 x4 a1 1 M), (30,
        (sld xs L (x4 + 1)).bind fun v_166 =>
        (pL_mate a1 v_166 a3 M).bind fun q_167 =>
        (sld xs L (x4 + 1)).bind fun v_168 =>
        (p12_mate a2 v_168 q_167.2).bind fun q_169 =>
        (p12_thrown a2 q_169.2).bind fun v_170 =>
        if v_170 = q_167.1 then
          if q_167.1 = 0 then
            (aldL q_169.2 a3 0).bind fun v_171 =>
            if (lg_cmp v_171 (q_169.1.toInt64)) = 0 then
              pW_J2242 xs L (pW_L23 xs L n) a1 a2 a3 x4 q_169.2
            else
              some 0
          else
            pW_J2242 xs L (pW_L23 xs L n) a1 a2 a3 x4 q_169.2
        else
          some 0), (31,
        (sld xs L (x4 + 1)).bind fun v_172 =>
        (pL_stable a1 v_172 a3 M).bind fun q_173 =>
        (sld xs L (x4 + 1)).bind fun v_174 =>
        (p12_stable a2 v_174 q_173.2).bind fun q_175 =>
        (p12_thrown a2 q_175.2).bind fun v_176 =>
        if v_176 = q_173.1 then
          if q_173.1 = 0 then
            (aldL q_175.2 a3 0).bind fun v_177 =>
            if (lg_cmp v_177 (q_175.1.toInt64)) = 0 then
              pW_J2298 xs L (pW_L23 xs L n) a1 a2 a3 x4 q_175.2
            else
              some 0
          else
            pW_J2298 xs L (pW_L23 xs L n) a1 a2 a3 x4 q_175.2
        else
          some 0), (32,
        (p11_runs a1 M).bind fun v_178 =>
        (p12_runs a2 M).bind fun q_179 =>
        if v_178 = q_179.1 then
          pW_J3518 xs L (pW_L23 xs L n) a1 a2 a3 x4 q_179.2
        else
          some 0), (33,
        (sld xs L (x4 + 1)).bind fun v_180 =>
        (sld xs L (x4 + 2)).bind fun v_181 =>
        (pL_owes a1 v_180 v_181 a3 M).bind fun q_182 =>
        (sld xs L (x4 + 1)).bind fun v_183 =>
        (sld xs L (x4 + 2)).bind fun v_184 =>
        (p12_owes a2 v_183 v_184 q_182.2).bind fun q_185 =>
        (p12_thrown a2 q_185.2).bind fun v_186 =>
        if v_186 = q_182.1 then
          if q_182.1 = 0 then
            (aldL q_185.2 a3 0).bind fun v_187 =>
            if (lg_cmp v_187 (q_185.1.toInt64)) = 0 then
              pW_J2379 xs L (pW_L23 xs L n) a1 a2 a3 x4 q_185.2
            else
              some 0
          else
            pW_J2379 xs L (pW_L23 xs L n) a1 a2 a3 x4 q_185.2
        else
          some 0), (34,
        (p11_net a1 M).bind fun v_188 =>
        (p12_net a2 M).bind fun q_189 =>
        if v_188 = q_189.1 then
          pW_J3518 xs L (pW_L23 xs L n) a1 a2 a3 x4 q_189.2
        else
          some 0), (35,
        (sld xs L (x4 + 1)).bind fun v_190 =>
        (pL_ring a1 v_190 a3 M).bind fun q_191 =>
        (sld xs L (x4 + 1)).bind fun v_192 =>
        (p12_ring a2 v_192 q_191.2).bind fun q_193 =>
        (p12_thrown a2 q_193.2).bind fun v_194 =>
        if v_194 = q_191.1 then
          if q_191.1 = 0 then
            (aldL q_193.2 a3 0).bind fun v_195 =>
            if q_193.1 = 0 then
              pW_J2449 xs L (pW_L23 xs L n) a1 a2 a3 x4 v_195 0 q_193.2
            else
              pW_J2449 xs L (pW_L23 xs L n) a1 a2 a3 x4 v_195 1 q_193.2
          else
            pW_J2455 xs L (pW_L23 xs L n) a1 a2 a3 x4 q_193.2
        else
          some 0), (36,
        (p11_rich a1 M).bind fun v_196 =>
        (p12_rich a2 M).bind fun q_197 =>
        if v_196 = q_197.1 then
          pW_J3518 xs L (pW_L23 xs L n) a1 a2 a3 x4 q_197.2
        else
          some 0), (37,
        (sld xs L (x4 + 1)).bind fun v_198 =>
        (sld xs L (x4 + 2)).bind fun v_199 =>
        (pL_rests a1 v_198 v_199 a3 M).bind fun q_200 =>
        (sld xs L (x4 + 1)).bind fun v_201 =>
        (sld xs L (x4 + 2)).bind fun v_202 =>
        (p12_rests a2 v_201 v_202 q_200.2).bind fun q_203 =>
        (p12_thrown a2 q_203.2).bind fun v_204 =>
        if v_204 = q_200.1 then
          if q_200.1 = 0 then
            (aldL q_203.2 a3 0).bind fun v_205 =>
            if (lg_cmp v_205 (q_203.1.toInt64)) = 0 then
              pW_J2536 xs L (pW_L23 xs L n) a1 a2 a3 x4 q_203.2
            else
              some 0
          else
            pW_J2536 xs L (pW_L23 xs L n) a1 a2 a3 x4 q_203.2
        else
          some 0), (38,
        (sld xs L (x4 + 1)).bind fun v_206 =>
        (pL_mild a1 v_206 a3 M).bind fun q_207 =>
        (sld xs L (x4 + 1)).bind fun v_208 =>
        (p12_mild a2 v_208 q_207.2).bind fun q_209 =>
        (p12_thrown a2 q_209.2).bind fun v_210 =>
        if v_210 = q_207.1 then
          if q_207.1 = 0 then
            (aldL q_209.2 a3 0).bind fun v_211 =>
            if (lg_cmp v_211 (q_209.1.toInt64)) = 0 then
              pW_J2592 xs L (pW_L23 xs L n) a1 a2 a3 x4 q_209.2
            else
              some 0
          else
            pW_J2592 xs L (pW_L23 xs L n) a1 a2 a3 x4 q_209.2
        else
          some 0), (39,
        (sld xs L (x4 + 1)).bind fun v_212 =>
        (pL_branch a1 v_212 a3 M).bind fun q_213 =>
        (sld xs L (x4 + 1)).bind fun v_214 =>
        (p12_branch a2 v_214 q_213.2).bind fun q_215 =>
        (p12_thrown a2 q_215.2).bind fun v_216 =>
        if v_216 = q_213.1 then
          if q_213.1 = 0 then
            (aldL q_215.2 a3 0).bind fun v_217 =>
            if (lg_cmp v_217 (q_215.1.toInt64)) = 0 then
              pW_J2648 xs L (pW_L23 xs L n) a1 a2 a3 x4 q_215.2
            else
              some 0
          else
            pW_J2648 xs L (pW_L23 xs L n) a1 a2 a3 x4 q_215.2
        else
          some 0), (40,
        (p11_senior a1 M).bind fun v_218 =>
        (p12_senior a2 M).bind fun q_219 =>
        if v_218 = q_219.1 then
          pW_J3518 xs L (pW_L23 xs L n) a1 a2 a3 x4 q_219.2
        else
          some 0), (41,
        (sld xs L (x4 + 1)).bind fun v_220 =>
        (sld xs L (x4 + 2)).bind fun v_221 =>
        (pL_kin a1 v_220 v_221 a3 M).bind fun q_222 =>
        (sld xs L (x4 + 1)).bind fun v_223 =>
        (sld xs L (x4 + 2)).bind fun v_224 =>
        (p12_kin a2 v_223 v_224 q_222.2).bind fun q_225 =>
        (p12_thrown a2 q_225.2).bind fun v_226 =>
        if v_226 = q_222.1 then
          if q_222.1 = 0 then
            (aldL q_225.2 a3 0).bind fun v_227 =>
            if (lg_cmp v_227 (q_225.1.toInt64)) = 0 then
              pW_J2729 xs L (pW_L23 xs L n) a1 a2 a3 x4 q_225.2
            else
              some 0
          else
            pW_J2729 xs L (pW_L23 xs L n) a1 a2 a3 x4 q_225.2
        else
          some 0), (42,
        (sld xs L (x4 + 1)).bind fun v_228 =>
        (pL_cousins a1 v_228 a3 M).bind fun q_229 =>
        (sld xs L (x4 + 1)).bind fun v_230 =>
        (p12_cousins a2 v_230 q_229.2).bind fun q_231 =>
        (p12_thrown a2 q_231.2).bind fun v_232 =>
        if v_232 = q_229.1 then
          if q_229.1 = 0 then
            (aldL q_231.2 a3 0).bind fun v_233 =>
            if (lg_cmp v_233 (q_231.1.toInt64)) = 0 then
              pW_J2785 xs L (pW_L23 xs L n) a1 a2 a3 x4 q_231.2
            else
              some 0
          else
            pW_J2785 xs L (pW_L23 xs L n) a1 a2 a3 x4 q_231.2
        else
          some 0), (43,
        (sld xs L (x4 + 1)).bind fun v_234 =>
        (pL_under a1 v_234 a3 M).bind fun q_235 =>
        (sld xs L (x4 + 1)).bind fun v_236 =>
        (p12_under a2 v_236 q_235.2).bind fun q_237 =>
        (p12_thrown a2 q_237.2).bind fun v_238 =>
        if v_238 = q_235.1 then
          if q_235.1 = 0 then
            (aldL q_237.2 a3 0).bind fun v_239 =>
            if (lg_cmp v_239 (q_237.1.toInt64)) = 0 then
              pW_J2841 xs L (pW_L23 xs L n) a1 a2 a3 x4 q_237.2
            else
              some 0
          else
            pW_J2841 xs L (pW_L23 xs L n) a1 a2 a3 x4 q_237.2
        else
          some 0), (44,
        (p11_free a1 M).bind fun v_240 =>
        (p12_free a2 M).bind fun q_241 =>
        if v_240 = q_241.1 then
          pW_J3518 xs L (pW_L23 xs L n) a1 a2 a3 x4 q_241.2
        else
          some 0), (45,
        (sld xs L (x4 + 1)).bind fun v_242 =>
        (sld xs L (x4 + 2)).bind fun v_243 =>
        (sld xs L (x4 + 3)).bind fun v_244 =>
        (pL_odds a1 v_242 v_243 v_244 a3 M).bind fun q_245 =>
        (sld xs L (x4 + 1)).bind fun v_246 =>
        (sld xs L (x4 + 2)).bind fun v_247 =>
        (sld xs L (x4 + 3)).bind fun v_248 =>
        (p12_odds a2 v_246 v_247 v_248 q_245.2).bind fun q_249 =>
        (p12_thrown a2 q_249.2).bind fun v_250 =>
        if v_250 = q_245.1 then
          if q_245.1 = 0 then
            (aldL q_249.2 a3 0).bind fun v_251 =>
            if (lg_cmp v_251 (q_249.1.toInt64)) = 0 then
              pW_J2934 xs L (pW_L23 xs L n) a1 a2 a3 x4 q_249.2
            else
              some 0
          else
            pW_J2934 xs L (pW_L23 xs L n) a1 a2 a3 x4 q_249.2
        else
          some 0), (46,
        (p11_twins a1 M).bind fun v_252 =>
        (p12_twins a2 M).bind fun q_253 =>
        if v_252 = q_253.1 then
          pW_J3518 xs L (pW_L23 xs L n) a1 a2 a3 x4 q_253.2
        else
          some 0), (47,
        (p11_mean a1 M).bind fun v_254 =>
        (p12_mean a2 M).bind fun q_255 =>
        if v_254 = q_255.1 then
          pW_J3518 xs L (pW_L23 xs L n) a1 a2 a3 x4 q_255.2
        else
          some 0), (48,
        (p11_oldest a1 M).bind fun v_256 =>
        (p12_oldest a2 M).bind fun q_257 =>
        if v_256 = q_257.1 then
          pW_J3518 xs L (pW_L23 xs L n) a1 a2 a3 x4 q_257.2
        else
          some 0), (49,
        (p11_youngest a1 M).bind fun v_258 =>
        (p12_youngest a2 M).bind fun q_259 =>
        if v_258 = q_259.1 then
          pW_J3518 xs L (pW_L23 xs L n) a1 a2 a3 x4 q_259.2
        else
          some 0), (50,
        (p11_crib a1 M).bind fun v_260 =>
        (p12_crib a2 M).bind fun q_261 =>
        if v_260 = q_261.1 then
          pW_J3518 xs L (pW_L23 xs L n) a1 a2 a3 x4 q_261.2
        else
          some 0), (51,
        (p11_spread a1 M).bind fun v_262 =>
        (p12_spread a2 M).bind fun q_263 =>
        if v_262 = q_263.1 then
          pW_J3518 xs L (pW_L23 xs L n) a1 a2 a3 x4 q_263.2
        else
          some 0), (52,
        (sld xs L (x4 + 1)).bind fun v_264 =>
        (sld xs L (x4 + 2)).bind fun v_265 =>
        (sld xs L (x4 + 3)).bind fun v_266 =>
        if v_266 = 0 then
          pW_J3042 xs L (pW_L23 xs L n) a1 a2 a3 x4 a1 v_264 v_265 0 M
        else
          pW_J3042 xs L (pW_L23 xs L n) a1 a2 a3 x4 a1 v_264 v_265 1 M), (53,
        (sld xs L (x4 + 1)).bind fun v_267 =>
        (sld xs L (x4 + 2)).bind fun v_268 =>
        if v_268 = 0 then
          pW_J3132 xs L (pW_L23 xs L n) a1 a2 a3 x4 a1 v_267 0 M
        else
          pW_J3132 xs L (pW_L23 xs L n) a1 a2 a3 x4 a1 v_267 1 M), (54,
        (sld xs L (x4 + 1)).bind fun v_269 =>
        (sld xs L (x4 + 2)).bind fun v_270 =>
        if v_270 = 0 then
          pW_J3216 xs L (pW_L23 xs L n) a1 a2 a3 x4 a1 v_269 0 M
        else
          pW_J3216 xs L (pW_L23 xs L n) a1 a2 a3 x4 a1 v_269 1 M), (55,
        (sld xs L (x4 + 1)).bind fun v_271 =>
        (sld xs L (x4 + 2)).bind fun v_272 =>
        if v_272 = 0 then
          pW_J3300 xs L (pW_L23 xs L n) a1 a2 a3 x4 a1 v_271 0 M
        else
          pW_J3300 xs L (pW_L23 xs L n) a1 a2 a3 x4 a1 v_271 1 M), (56,
        (sld xs L (x4 + 1)).bind fun v_273 =>
        (sld xs L (x4 + 2)).bind fun v_274 =>
        (pL_log a1 v_273 v_274 a3 M).bind fun q_275 =>
        (sld xs L (x4 + 1)).bind fun v_276 =>
        (sld xs L (x4 + 2)).bind fun v_277 =>
        (p12_log a2 v_276 v_277 q_275.2).bind fun q_278 =>
        (p12_thrown a2 q_278.2).bind fun v_279 =>
        if v_279 = q_275.1 then
          if q_275.1 = 0 then
            (aldL q_278.2 a3 0).bind fun v_280 =>
            if (lg_cmp v_280 (q_278.1.toInt64)) = 0 then
              pW_J3428 xs L (pW_L23 xs L n) a1 a2 a3 x4 q_278.2
            else
              some 0
          else
            pW_J3428 xs L (pW_L23 xs L n) a1 a2 a3 x4 q_278.2
        else
          some 0), (57,
        (sld xs L (x4 + 1)).bind fun v_281 =>
        (p11_seed a1 v_281 M).bind fun q_282 =>
        (sld xs L (x4 + 1)).bind fun v_283 =>
        (p12_seed a2 v_283 q_282.2).bind fun q_284 =>
        if q_282.1 = q_284.1 then
          pW_J3518 xs L (pW_L23 xs L n) a1 a2 a3 x4 q_284.2
        else
          some 0), (58,
        (p11_undo a1 M).bind fun q_285 =>
        (p12_undo a2 q_285.2).bind fun q_286 =>
        if q_285.1 = q_286.1 then
          pW_J3518 xs L (pW_L23 xs L n) a1 a2 a3 x4 q_286.2
        else
          some 0), (59,
        (p11_image a1 M).bind fun q_287 =>
        (p12_image a2 q_287).bind fun q_288 =>
        pW_J3518 xs L (pW_L23 xs L n) a1 a2 a3 x4 q_288), (60,
        (p11_back a1 M).bind fun q_289 =>
        (p12_back a2 q_289.2).bind fun q_290 =>
        if q_289.1 = q_290.1 then
          pW_J3518 xs L (pW_L23 xs L n) a1 a2 a3 x4 q_290.2
        else
          some 0), (61,
        (sld xs L (x4 + 1)).bind fun v_291 =>
        (p11_count a1 v_291 M).bind fun v_292 =>
        (sld xs L (x4 + 1)).bind fun v_293 =>
        (p12_count a2 v_293 M).bind fun q_294 =>
        if v_292 = q_294.1 then
          pW_J3518 xs L (pW_L23 xs L n) a1 a2 a3 x4 q_294.2
        else
          some 0)]
def pW (xs : Nat → Int32) (L : Nat) (M : mMem) : Option Int32 :=
  (newC M 11 0).bind fun n_1 =>
  (p11_init n_1.1 n_1.2).bind fun q_2 =>
  (newC q_2 12 0).bind fun n_3 =>
  (p12_init n_3.1 n_3.2).bind fun q_4 =>
  (newC q_4 22 1).bind fun n_5 =>
  pW_L23 xs L 513 n_1.1 n_3.1 n_5.1 0 (mF n_5.2)
