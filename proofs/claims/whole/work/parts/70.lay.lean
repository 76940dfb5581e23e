/-! the constructors run over a list of objects: kind, length, references (number + 1) and ints that were written, the latest first -/
abbrev qO : Type := Nat × Nat × List (Nat × Nat) × List (Nat × Int32)
def lkR : List (Nat × Nat) → Nat → Nat
  | [], _ => 0
  | p :: t, j => if j = p.1 then p.2 else lkR t j
def lkI : List (Nat × Int32) → Nat → Int32
  | [], _ => 0
  | p :: t, j => if j = p.1 then p.2 else lkI t j
def q0 : qO := (0, 0, [], [])
def qg (l : List qO) (i : Nat) : qO := l.getD i q0
def rl (g r : Nat) : Nat := if r = 0 then 0 else g + r
def ofL (g : Nat) (l : List qO) : mMem := (fun a => if a ≤ g then 0 else (qg l (a - g - 1)).1, fun a => if a ≤ g then 0 else (qg l (a - g - 1)).2.1, fun a j => if a ≤ g then 0 else lkI (qg l (a - g - 1)).2.2.2 j, fun a j => if a ≤ g then 0 else rl g (lkR (qg l (a - g - 1)).2.2.1 j), fun _ _ => 0, g + 1 + l.length)
theorem of_sub {g i : Nat} : g + 1 + i - g - 1 = i := by omega
theorem of_nle {g i : Nat} : ¬ g + 1 + i ≤ g := by omega
theorem of_eq {g i b : Nat} : (b = g + 1 + i) ↔ (¬ b ≤ g ∧ b - g - 1 = i) := by omega
theorem ofK {g i : Nat} {l : List qO} : mK (ofL g l) (g + 1 + i) = (qg l i).1 := by
  show (if g + 1 + i ≤ g then 0 else (qg l (g + 1 + i - g - 1)).1) = _
  rw [if_neg of_nle, of_sub]
theorem ofN {g i : Nat} {l : List qO} : mN (ofL g l) (g + 1 + i) = (qg l i).2.1 := by
  show (if g + 1 + i ≤ g then 0 else (qg l (g + 1 + i - g - 1)).2.1) = _
  rw [if_neg of_nle, of_sub]
theorem ofI {g i j : Nat} {l : List qO} : mI (ofL g l) (g + 1 + i) j = lkI (qg l i).2.2.2 j := by
  show (if g + 1 + i ≤ g then 0 else lkI (qg l (g + 1 + i - g - 1)).2.2.2 j) = _
  rw [if_neg of_nle, of_sub]
theorem ofR {g i j : Nat} {l : List qO} : mR (ofL g l) (g + 1 + i) j = rl g (lkR (qg l i).2.2.1 j) := by
  show (if g + 1 + i ≤ g then 0 else rl g (lkR (qg l (g + 1 + i - g - 1)).2.2.1 j)) = _
  rw [if_neg of_nle, of_sub]
theorem rl_ne {g r : Nat} (h : r ≠ 0) : rl g r = g + r := if_neg h
theorem rl_z {g r : Nat} : rl g r = 0 ↔ r = 0 := by
  unfold rl
  by_cases h : r = 0
  · simp [h]
  · rw [if_neg h]
    omega
theorem m_ext {M M' : mMem} (h1 : ∀ a, mK M a = mK M' a) (h2 : ∀ a, mN M a = mN M' a) (h3 : ∀ a j, mI M a j = mI M' a j) (h4 : ∀ a j, mR M a j = mR M' a j) (h5 : ∀ a j, mL M a j = mL M' a j) (h6 : mX M = mX M') : M = M' := by
  obtain ⟨m1, m2, m3, m4, m5, m6⟩ := M
  have e1 : m1 = mK M' := funext h1
  have e2 : m2 = mN M' := funext h2
  have e3 : m3 = mI M' := funext fun a => funext fun j => h3 a j
  have e4 : m4 = mR M' := funext fun a => funext fun j => h4 a j
  have e5 : m5 = mL M' := funext fun a => funext fun j => h5 a j
  have e6 : m6 = mX M' := h6
  subst e1 e2 e3 e4 e5 e6
  rfl
theorem qg_set {l : List qO} {i j : Nat} {o : qO} (hi : i < l.length) : qg (l.set i o) j = if j = i then o else qg l j := by
  by_cases h : j = i
  · subst h
    simp [qg, List.getD, hi]
  · simp [qg, List.getD, h, Ne.symm h]
theorem qg_app {l : List qO} {j : Nat} {o : qO} : qg (l ++ [o]) j = if j = l.length then o else qg l j := by
  by_cases h : j = l.length
  · subst h
    simp [qg, List.getD]
  · by_cases h2 : j < l.length
    · simp [qg, List.getD, h, List.getElem?_append_left h2]
    · have h3 : l.length < j := by omega
      have e1 : (l ++ [o])[j]? = none := List.getElem?_eq_none (by simp; omega)
      have e2 : l[j]? = none := List.getElem?_eq_none (by omega)
      simp [qg, List.getD, h, e1, e2]
theorem qg_lt {l : List qO} {i c : Nat} (h : (qg l i).1 = c) (hc : c ≠ 0) : i < l.length := by
  by_cases h2 : i < l.length
  · exact h2
  · have e2 : l[i]? = none := List.getElem?_eq_none (by omega)
    have e : (qg l i).1 = 0 := by simp [qg, List.getD, e2, q0]
    exact absurd (h.symm.trans e) hc
def setIL (l : List qO) (i k : Nat) (v : Int32) : List qO := l.set i ((qg l i).1, (qg l i).2.1, (qg l i).2.2.1, (k, v) :: (qg l i).2.2.2)
def setRL (l : List qO) (i k v : Nat) : List qO := l.set i ((qg l i).1, (qg l i).2.1, (k, v + 1) :: (qg l i).2.2.1, (qg l i).2.2.2)
theorem of_sI {g i k : Nat} {v : Int32} {l : List qO} (hi : i < l.length) : sI (ofL g l) (g + 1 + i) k v = ofL g (setIL l i k v) := by
  apply m_ext
  · intro b
    show (if b ≤ g then 0 else (qg l (b - g - 1)).1) = (if b ≤ g then 0 else (qg (setIL l i k v) (b - g - 1)).1)
    by_cases h : b - g - 1 = i <;> simp [setIL, qg_set hi, h]
  · intro b
    show (if b ≤ g then 0 else (qg l (b - g - 1)).2.1) = (if b ≤ g then 0 else (qg (setIL l i k v) (b - g - 1)).2.1)
    by_cases h : b - g - 1 = i <;> simp [setIL, qg_set hi, h]
  · intro b j
    show (if b = g + 1 + i ∧ j = k then v else if b ≤ g then 0 else lkI (qg l (b - g - 1)).2.2.2 j) = (if b ≤ g then 0 else lkI (qg (setIL l i k v) (b - g - 1)).2.2.2 j)
    simp only [of_eq, setIL, qg_set hi]
    by_cases h0 : b ≤ g
    · simp [h0]
    · by_cases h : b - g - 1 = i <;> simp [h0, h, lkI]
  · intro b j
    show (if b ≤ g then 0 else rl g (lkR (qg l (b - g - 1)).2.2.1 j)) = (if b ≤ g then 0 else rl g (lkR (qg (setIL l i k v) (b - g - 1)).2.2.1 j))
    by_cases h : b - g - 1 = i <;> simp [setIL, qg_set hi, h]
  · intro _ _; rfl
  · show g + 1 + l.length = g + 1 + (setIL l i k v).length
    simp [setIL]
theorem of_sR {g i k v : Nat} {l : List qO} (hi : i < l.length) : sR (ofL g l) (g + 1 + i) k (g + 1 + v) = ofL g (setRL l i k v) := by
  apply m_ext
  · intro b
    show (if b ≤ g then 0 else (qg l (b - g - 1)).1) = (if b ≤ g then 0 else (qg (setRL l i k v) (b - g - 1)).1)
    by_cases h : b - g - 1 = i <;> simp [setRL, qg_set hi, h]
  · intro b
    show (if b ≤ g then 0 else (qg l (b - g - 1)).2.1) = (if b ≤ g then 0 else (qg (setRL l i k v) (b - g - 1)).2.1)
    by_cases h : b - g - 1 = i <;> simp [setRL, qg_set hi, h]
  · intro b j
    show (if b ≤ g then 0 else lkI (qg l (b - g - 1)).2.2.2 j) = (if b ≤ g then 0 else lkI (qg (setRL l i k v) (b - g - 1)).2.2.2 j)
    by_cases h : b - g - 1 = i <;> simp [setRL, qg_set hi, h]
  · intro b j
    show (if b = g + 1 + i ∧ j = k then g + 1 + v else if b ≤ g then 0 else rl g (lkR (qg l (b - g - 1)).2.2.1 j)) = (if b ≤ g then 0 else rl g (lkR (qg (setRL l i k v) (b - g - 1)).2.2.1 j))
    simp only [of_eq, setRL, qg_set hi]
    by_cases h0 : b ≤ g
    · simp [h0]
    · by_cases h : b - g - 1 = i
      · by_cases h3 : j = k
        · simp only [h0, h, h3, lkR, rl, not_false_eq_true, and_self, if_true, if_false, Nat.succ_ne_zero]
          omega
        · simp [h0, h, h3, lkR]
      · simp [h0, h]
  · intro _ _; rfl
  · show g + 1 + l.length = g + 1 + (setRL l i k v).length
    simp [setRL]
theorem of_nC {g k n : Nat} {l : List qO} : nC (ofL g l) k n = ofL g (l ++ [(k, n, [], [])]) := by
  have hX : mX (ofL g l) = g + 1 + l.length := rfl
  apply m_ext
  · intro b
    show (if b = g + 1 + l.length then k else if b ≤ g then 0 else (qg l (b - g - 1)).1) = (if b ≤ g then 0 else (qg (l ++ [(k, n, [], [])]) (b - g - 1)).1)
    simp only [of_eq, qg_app]
    by_cases h0 : b ≤ g
    · simp [h0]
    · by_cases h : b - g - 1 = l.length <;> simp [h0, h]
  · intro b
    show (if b = g + 1 + l.length then n else if b ≤ g then 0 else (qg l (b - g - 1)).2.1) = (if b ≤ g then 0 else (qg (l ++ [(k, n, [], [])]) (b - g - 1)).2.1)
    simp only [of_eq, qg_app]
    by_cases h0 : b ≤ g
    · simp [h0]
    · by_cases h : b - g - 1 = l.length <;> simp [h0, h]
  · intro b j
    show (if b = g + 1 + l.length then (fun _ => 0) else fun j => if b ≤ g then 0 else lkI (qg l (b - g - 1)).2.2.2 j) j = (if b ≤ g then 0 else lkI (qg (l ++ [(k, n, [], [])]) (b - g - 1)).2.2.2 j)
    simp only [of_eq, qg_app]
    by_cases h0 : b ≤ g
    · simp [h0]
    · by_cases h : b - g - 1 = l.length <;> simp [h0, h, lkI]
  · intro b j
    show (if b = g + 1 + l.length then (fun _ => 0) else fun j => if b ≤ g then 0 else rl g (lkR (qg l (b - g - 1)).2.2.1 j)) j = (if b ≤ g then 0 else rl g (lkR (qg (l ++ [(k, n, [], [])]) (b - g - 1)).2.2.1 j))
    simp only [of_eq, qg_app]
    by_cases h0 : b ≤ g
    · simp [h0]
    · by_cases h : b - g - 1 = l.length <;> simp [h0, h, lkR, rl]
  · intro b j
    show (if b = g + 1 + l.length then (fun _ => (0 : Int64)) else fun _ => 0) j = 0
    by_cases h : b = g + 1 + l.length <;> simp [h]
  · show g + 1 + l.length + 1 = g + 1 + (l ++ [(k, n, [], [])]).length
    simp
    omega
def fP (g : Nat) (p : Nat × List qO) : Nat × mMem := (g + 1 + p.1, ofL g p.2)
def fA (g i : Nat) : Nat := g + 1 + i
def gdL {β : Type} (l : List qO) (a c : Nat) (P : Option β) : Option β := if (qg l a).1 = c then P else none
def newCL (l : List qO) (kind len : Nat) : Option (Nat × List qO) := some (l.length, l ++ [(kind, len, [], [])])
def putIL (l : List qO) (a c k : Nat) (v : Int32) : Option (List qO) := if (qg l a).1 = c then some (setIL l a k v) else none
def putRL (l : List qO) (a c k : Nat) (v : Nat) : Option (List qO) := if (qg l a).1 = c then some (setRL l a k v) else none
def getRL (l : List qO) (a c k : Nat) : Option Nat := if (qg l a).1 = c ∧ lkR (qg l a).2.2.1 k ≠ 0 then some (lkR (qg l a).2.2.1 k - 1) else none
def lenAL (l : List qO) (a : Nat) : Option Int32 := if 20 ≤ (qg l a).1 ∧ (qg l a).1 ≤ 24 then some (Int32.ofNat (qg l a).2.1) else none
def astIL (l : List qO) (a : Nat) (j v : Int32) : Option (List qO) := if (qg l a).1 = 20 ∧ 0 ≤ j ∧ j.toNatClampNeg < (qg l a).2.1 then some (setIL l a j.toNatClampNeg v) else none
def astRL (l : List qO) (a c d : Nat) (j : Int32) (v : Nat) : Option (List qO) := if (qg l a).1 = c ∧ (0 ≤ j ∧ j.toNatClampNeg < (qg l a).2.1) ∧ (qg l v).1 = d then some (setRL l a j.toNatClampNeg v) else none
theorem o_gd {β : Type} {g a c : Nat} {l : List qO} {P : Option β} : gd (ofL g l) (g + 1 + a) c P = gdL l a c P := by
  rw [gd, gdL, ofK]
theorem o_newC {g k n : Nat} {l : List qO} : newC (ofL g l) k n = (newCL l k n).map (fP g) := by
  have h : mX (ofL g l) ≠ 0 := by show g + 1 + l.length ≠ 0; omega
  rw [newC, if_pos h, of_nC]
  rfl
theorem o_putI {g a c k : Nat} {v : Int32} {l : List qO} (hc : c ≠ 0) : putI (ofL g l) (g + 1 + a) c k v = (putIL l a c k v).map (ofL g) := by
  rw [putI, putIL, ofK]
  by_cases h : (qg l a).1 = c
  · rw [if_pos h, if_pos h, of_sI (qg_lt h hc)]
    rfl
  · rw [if_neg h, if_neg h]
    rfl
theorem o_putR {g a c k v : Nat} {l : List qO} (hc : c ≠ 0) : putR (ofL g l) (g + 1 + a) c k (g + 1 + v) = (putRL l a c k v).map (ofL g) := by
  have hv : g + 1 + v ≠ 0 := by omega
  rw [putR, putRL, ofK]
  by_cases h : (qg l a).1 = c
  · rw [if_pos ⟨h, hv⟩, if_pos h, of_sR (qg_lt h hc)]
    rfl
  · rw [if_neg (fun q => h q.1), if_neg h]
    rfl
theorem o_getR {g a c k : Nat} {l : List qO} : getR (ofL g l) (g + 1 + a) c k = (getRL l a c k).map (fA g) := by
  rw [getR, getRL, ofK, ofR]
  by_cases h : (qg l a).1 = c
  · by_cases h2 : lkR (qg l a).2.2.1 k = 0
    · rw [if_neg (fun q => q.2 (rl_z.mpr h2)), if_neg (fun q => q.2 h2)]
      rfl
    · rw [if_pos ⟨h, fun q => h2 (rl_z.mp q)⟩, if_pos ⟨h, h2⟩, rl_ne h2]
      show some _ = some (g + 1 + (lkR (qg l a).2.2.1 k - 1))
      congr 1
      omega
  · rw [if_neg (fun q => h q.1), if_neg (fun q => h q.1)]
    rfl
theorem o_lenA {g a : Nat} {l : List qO} : lenA (ofL g l) (g + 1 + a) = lenAL l a := by
  rw [lenA, lenAL, ofK, ofN]
theorem o_astI {g a : Nat} {j v : Int32} {l : List qO} : astI (ofL g l) (g + 1 + a) j v = (astIL l a j v).map (ofL g) := by
  rw [astI, astIL, ofK, ofN]
  by_cases h : (qg l a).1 = 20 ∧ 0 ≤ j ∧ j.toNatClampNeg < (qg l a).2.1
  · rw [if_pos h, if_pos h, of_sI (qg_lt h.1 (by decide))]
    rfl
  · rw [if_neg h, if_neg h]
    rfl
theorem o_astR {g a c d v : Nat} {j : Int32} {l : List qO} (hc : c ≠ 0) : astR (ofL g l) (g + 1 + a) c d j (g + 1 + v) = (astRL l a c d j v).map (ofL g) := by
  have hv : g + 1 + v ≠ 0 := by omega
  rw [astR, astRL, ofK, ofN, ofK]
  by_cases h : (qg l a).1 = c ∧ (0 ≤ j ∧ j.toNatClampNeg < (qg l a).2.1) ∧ (qg l v).1 = d
  · rw [if_pos ⟨h.1, h.2.1, h.2.2, hv⟩, if_pos h, of_sR (qg_lt h.1 hc)]
    rfl
  · rw [if_neg (fun q => h ⟨q.1, q.2.1, q.2.2.1⟩), if_neg h]
    rfl
theorem o_gdm {β γ : Type} {l : List qO} {a c : Nat} {P : Option β} {f : β → γ} : (gdL l a c P).map f = gdL l a c (P.map f) := by
  rw [gdL, gdL]
  by_cases h : (qg l a).1 = c
  · rw [if_pos h, if_pos h]
  · rw [if_neg h, if_neg h]
    rfl
theorem o_ite {β γ : Type} {p : Prop} [Decidable p] {x y : Option β} {f : β → γ} : (if p then x else y).map f = if p then x.map f else y.map f := by
  by_cases h : p <;> simp [h]
theorem fP1 {g : Nat} {p : Nat × List qO} : (fP g p).1 = g + 1 + p.1 := rfl
theorem fP2 {g : Nat} {p : Nat × List qO} : (fP g p).2 = ofL g p.2 := rfl
theorem one_ne_zero9 : (1 : Nat) ≠ 0 := by decide
def L8_init (a0 : Nat) (M : (List qO)) : Option (List qO) :=
  gdL M a0 9 (
    (putIL M a0 9 3 (-1)).bind fun M_1 =>
    (putIL M_1 a0 9 4 (-1)).bind fun M_2 =>
    (putIL M_2 a0 9 6 50).bind fun M_3 =>
    some M_3)
theorem o_p8_init {g : Nat} (a0 : Nat) (M : List qO) : p8_init (g + 1 + a0) (ofL g M) = (L8_init a0 M).map (ofL g) := by
  simp only [p8_init, L8_init, o_gd, o_newC, o_putI, o_putR, o_getR, o_lenA, o_astI, o_astR, o_gdm, o_ite, fP1, fP2, fA, Option.bind_map, Option.map_bind, Function.comp_def, Option.map_some, Option.map_none, ne_eq, not_false_eq_true, Nat.reduceEqDiff, one_ne_zero9, reduceCtorEq, Nat.succ_ne_zero]
def L6_init (a0 : Nat) (M : (List qO)) : Option (List qO) :=
  gdL M a0 7 (
    (newCL M 20 300).bind fun n_1 =>
    (putRL n_1.2 a0 7 0 n_1.1).bind fun M_2 =>
    (putIL M_2 a0 7 1 0).bind fun M_3 =>
    (putIL M_3 a0 7 2 0).bind fun M_4 =>
    some M_4)
theorem o_p6_init {g : Nat} (a0 : Nat) (M : List qO) : p6_init (g + 1 + a0) (ofL g M) = (L6_init a0 M).map (ofL g) := by
  simp only [p6_init, L6_init, o_gd, o_newC, o_putI, o_putR, o_getR, o_lenA, o_astI, o_astR, o_gdm, o_ite, fP1, fP2, fA, Option.bind_map, Option.map_bind, Function.comp_def, Option.map_some, Option.map_none, ne_eq, not_false_eq_true, Nat.reduceEqDiff, one_ne_zero9, reduceCtorEq, Nat.succ_ne_zero, o_p8_init]
def L2_init_L81 : Nat → Nat → Int32 → (List qO) → Option (List qO)
  | 0, _, _, _ => none
  | n + 1, a0, x1, M =>
    (getRL M a0 3 0).bind fun v_1 =>
    (lenAL M v_1).bind fun v_2 =>
    if x1 < v_2 then
      (getRL M a0 3 0).bind fun v_3 =>
      (newCL M 9 0).bind fun n_4 =>
      (L8_init n_4.1 n_4.2).bind fun q_5 =>
      (astRL q_5 v_3 24 9 x1 n_4.1).bind fun M_6 =>
      (L2_init_L81 n) a0 (x1 + 1) M_6
    else
      some M
theorem o_p2_init_L81 {g : Nat} : ∀ (n a : Nat) (x : Int32) (l : List qO), p2_init_L81 n (g + 1 + a) x (ofL g l) = (L2_init_L81 n a x l).map (ofL g) := by
  intro n
  induction n with
  | zero => intro a x l; rfl
  | succ n ih =>
    intro a x l
    simp only [p2_init_L81, L2_init_L81, o_gd, o_newC, o_putI, o_putR, o_getR, o_lenA, o_astI, o_astR, o_gdm, o_ite, fP1, fP2, fA, Option.bind_map, Option.map_bind, Function.comp_def, Option.map_some, Option.map_none, ne_eq, not_false_eq_true, Nat.reduceEqDiff, one_ne_zero9, reduceCtorEq, Nat.succ_ne_zero, o_p8_init, o_p6_init, ih]
def L2_init (a0 : Nat) (M : (List qO)) : Option (List qO) :=
  gdL M a0 3 (
    (newCL M 24 8).bind fun n_1 =>
    (putRL n_1.2 a0 3 0 n_1.1).bind fun M_2 =>
    (newCL M_2 9 0).bind fun n_3 =>
    (L8_init n_3.1 n_3.2).bind fun q_4 =>
    (putRL q_4 a0 3 1 n_3.1).bind fun M_5 =>
    (newCL M_5 20 64).bind fun n_6 =>
    (putRL n_6.2 a0 3 2 n_6.1).bind fun M_7 =>
    (newCL M_7 7 0).bind fun n_8 =>
    (L6_init n_8.1 n_8.2).bind fun q_9 =>
    (putRL q_9 a0 3 3 n_8.1).bind fun M_10 =>
    (putIL M_10 a0 3 4 0).bind fun M_11 =>
    (putIL M_11 a0 3 5 90).bind fun M_12 =>
    (putIL M_12 a0 3 6 5).bind fun M_13 =>
    (putIL M_13 a0 3 7 1).bind fun M_14 =>
    (putIL M_14 a0 3 8 0).bind fun M_15 =>
    (putIL M_15 a0 3 9 1).bind fun M_16 =>
    (putIL M_16 a0 3 10 0).bind fun M_17 =>
    L2_init_L81 9 a0 0 M_17)
theorem o_p2_init {g : Nat} (a0 : Nat) (M : List qO) : p2_init (g + 1 + a0) (ofL g M) = (L2_init a0 M).map (ofL g) := by
  simp only [p2_init, L2_init, o_gd, o_newC, o_putI, o_putR, o_getR, o_lenA, o_astI, o_astR, o_gdm, o_ite, fP1, fP2, fA, Option.bind_map, Option.map_bind, Function.comp_def, Option.map_some, Option.map_none, ne_eq, not_false_eq_true, Nat.reduceEqDiff, one_ne_zero9, reduceCtorEq, Nat.succ_ne_zero, o_p8_init, o_p6_init, o_p2_init_L81]
def L4_init (a0 : Nat) (M : (List qO)) : Option (List qO) :=
  gdL M a0 5 (
    (newCL M 20 12).bind fun n_1 =>
    (putRL n_1.2 a0 5 0 n_1.1).bind fun M_2 =>
    (newCL M_2 20 12).bind fun n_3 =>
    (putRL n_3.2 a0 5 1 n_3.1).bind fun M_4 =>
    (newCL M_4 20 12).bind fun n_5 =>
    (putRL n_5.2 a0 5 2 n_5.1).bind fun M_6 =>
    (newCL M_6 20 12).bind fun n_7 =>
    (putRL n_7.2 a0 5 3 n_7.1).bind fun M_8 =>
    (newCL M_8 20 400).bind fun n_9 =>
    (putRL n_9.2 a0 5 4 n_9.1).bind fun M_10 =>
    (newCL M_10 20 400).bind fun n_11 =>
    (putRL n_11.2 a0 5 5 n_11.1).bind fun M_12 =>
    (newCL M_12 20 30).bind fun n_13 =>
    (putRL n_13.2 a0 5 6 n_13.1).bind fun M_14 =>
    (newCL M_14 20 400).bind fun n_15 =>
    (putRL n_15.2 a0 5 7 n_15.1).bind fun M_16 =>
    (putIL M_16 a0 5 8 0).bind fun M_17 =>
    (putIL M_17 a0 5 9 (-1)).bind fun M_18 =>
    some M_18)
theorem o_p4_init {g : Nat} (a0 : Nat) (M : List qO) : p4_init (g + 1 + a0) (ofL g M) = (L4_init a0 M).map (ofL g) := by
  simp only [p4_init, L4_init, o_gd, o_newC, o_putI, o_putR, o_getR, o_lenA, o_astI, o_astR, o_gdm, o_ite, fP1, fP2, fA, Option.bind_map, Option.map_bind, Function.comp_def, Option.map_some, Option.map_none, ne_eq, not_false_eq_true, Nat.reduceEqDiff, one_ne_zero9, reduceCtorEq, Nat.succ_ne_zero, o_p8_init, o_p6_init, o_p2_init_L81, o_p2_init]
def L3_sinit (a0 : Nat) (x1 : Int32) (M : (List qO)) : Option (List qO) :=
  gdL M a0 4 (
    (newCL M 20 400).bind fun n_1 =>
    (putRL n_1.2 a0 4 0 n_1.1).bind fun M_2 =>
    (newCL M_2 20 400).bind fun n_3 =>
    (putRL n_3.2 a0 4 1 n_3.1).bind fun M_4 =>
    (newCL M_4 20 400).bind fun n_5 =>
    (putRL n_5.2 a0 4 2 n_5.1).bind fun M_6 =>
    (putIL M_6 a0 4 4 0).bind fun M_7 =>
    (putIL M_7 a0 4 5 0).bind fun M_8 =>
    (putIL M_8 a0 4 6 0).bind fun M_9 =>
    (putIL M_9 a0 4 7 0).bind fun M_10 =>
    (putIL M_10 a0 4 3 x1).bind fun M_11 =>
    some M_11)
theorem o_p3_sinit {g : Nat} (a0 : Nat) (x1 : Int32) (M : List qO) : p3_sinit (g + 1 + a0) x1 (ofL g M) = (L3_sinit a0 x1 M).map (ofL g) := by
  simp only [p3_sinit, L3_sinit, o_gd, o_newC, o_putI, o_putR, o_getR, o_lenA, o_astI, o_astR, o_gdm, o_ite, fP1, fP2, fA, Option.bind_map, Option.map_bind, Function.comp_def, Option.map_some, Option.map_none, ne_eq, not_false_eq_true, Nat.reduceEqDiff, one_ne_zero9, reduceCtorEq, Nat.succ_ne_zero, o_p8_init, o_p6_init, o_p2_init_L81, o_p2_init, o_p4_init]
def L5_sinit (a0 : Nat) (x1 : Int32) (M : (List qO)) : Option (List qO) :=
  gdL M a0 6 (
    (newCL M 20 400).bind fun n_1 =>
    (putRL n_1.2 a0 6 0 n_1.1).bind fun M_2 =>
    (newCL M_2 20 400).bind fun n_3 =>
    (putRL n_3.2 a0 6 1 n_3.1).bind fun M_4 =>
    (newCL M_4 20 400).bind fun n_5 =>
    (putRL n_5.2 a0 6 2 n_5.1).bind fun M_6 =>
    (putIL M_6 a0 6 4 0).bind fun M_7 =>
    (putIL M_7 a0 6 5 0).bind fun M_8 =>
    (putIL M_8 a0 6 6 0).bind fun M_9 =>
    (putIL M_9 a0 6 7 0).bind fun M_10 =>
    (putIL M_10 a0 6 3 x1).bind fun M_11 =>
    some M_11)
theorem o_p5_sinit {g : Nat} (a0 : Nat) (x1 : Int32) (M : List qO) : p5_sinit (g + 1 + a0) x1 (ofL g M) = (L5_sinit a0 x1 M).map (ofL g) := by
  simp only [p5_sinit, L5_sinit, o_gd, o_newC, o_putI, o_putR, o_getR, o_lenA, o_astI, o_astR, o_gdm, o_ite, fP1, fP2, fA, Option.bind_map, Option.map_bind, Function.comp_def, Option.map_some, Option.map_none, ne_eq, not_false_eq_true, Nat.reduceEqDiff, one_ne_zero9, reduceCtorEq, Nat.succ_ne_zero, o_p8_init, o_p6_init, o_p2_init_L81, o_p2_init, o_p4_init, o_p3_sinit]
def L3_init (a0 : Nat) (a1 : Nat) (M : (List qO)) : Option (List qO) :=
  gdL M a0 4 (
    (L3_sinit a0 14 M).bind fun q_1 =>
    (putRL q_1 a0 4 8 a1).bind fun M_2 =>
    some M_2)
theorem o_p3_init {g : Nat} (a0 : Nat) (a1 : Nat) (M : List qO) : p3_init (g + 1 + a0) (g + 1 + a1) (ofL g M) = (L3_init a0 a1 M).map (ofL g) := by
  simp only [p3_init, L3_init, o_gd, o_newC, o_putI, o_putR, o_getR, o_lenA, o_astI, o_astR, o_gdm, o_ite, fP1, fP2, fA, Option.bind_map, Option.map_bind, Function.comp_def, Option.map_some, Option.map_none, ne_eq, not_false_eq_true, Nat.reduceEqDiff, one_ne_zero9, reduceCtorEq, Nat.succ_ne_zero, o_p8_init, o_p6_init, o_p2_init_L81, o_p2_init, o_p4_init, o_p3_sinit, o_p5_sinit]
def L5_init (a0 : Nat) (a1 : Nat) (M : (List qO)) : Option (List qO) :=
  gdL M a0 6 (
    (L5_sinit a0 12 M).bind fun q_1 =>
    (putRL q_1 a0 6 8 a1).bind fun M_2 =>
    some M_2)
theorem o_p5_init {g : Nat} (a0 : Nat) (a1 : Nat) (M : List qO) : p5_init (g + 1 + a0) (g + 1 + a1) (ofL g M) = (L5_init a0 a1 M).map (ofL g) := by
  simp only [p5_init, L5_init, o_gd, o_newC, o_putI, o_putR, o_getR, o_lenA, o_astI, o_astR, o_gdm, o_ite, fP1, fP2, fA, Option.bind_map, Option.map_bind, Function.comp_def, Option.map_some, Option.map_none, ne_eq, not_false_eq_true, Nat.reduceEqDiff, one_ne_zero9, reduceCtorEq, Nat.succ_ne_zero, o_p8_init, o_p6_init, o_p2_init_L81, o_p2_init, o_p4_init, o_p3_sinit, o_p5_sinit, o_p3_init]
def L1_init (a0 : Nat) (a1 : Nat) (a2 : Nat) (M : (List qO)) : Option (List qO) :=
  gdL M a0 2 (
    (newCL M 3 0).bind fun n_1 =>
    (L2_init n_1.1 n_1.2).bind fun q_2 =>
    (putRL q_2 a0 2 2 n_1.1).bind fun M_3 =>
    (putRL M_3 a0 2 0 a1).bind fun M_4 =>
    (putRL M_4 a0 2 1 a2).bind fun M_5 =>
    some M_5)
theorem o_p1_init {g : Nat} (a0 : Nat) (a1 : Nat) (a2 : Nat) (M : List qO) : p1_init (g + 1 + a0) (g + 1 + a1) (g + 1 + a2) (ofL g M) = (L1_init a0 a1 a2 M).map (ofL g) := by
  simp only [p1_init, L1_init, o_gd, o_newC, o_putI, o_putR, o_getR, o_lenA, o_astI, o_astR, o_gdm, o_ite, fP1, fP2, fA, Option.bind_map, Option.map_bind, Function.comp_def, Option.map_some, Option.map_none, ne_eq, not_false_eq_true, Nat.reduceEqDiff, one_ne_zero9, reduceCtorEq, Nat.succ_ne_zero, o_p8_init, o_p6_init, o_p2_init_L81, o_p2_init, o_p4_init, o_p3_sinit, o_p5_sinit, o_p3_init, o_p5_init]
def L0_init (a0 : Nat) (a1 : Nat) (a2 : Nat) (M : (List qO)) : Option (List qO) :=
  gdL M a0 1 (
    (newCL M 3 0).bind fun n_1 =>
    (L2_init n_1.1 n_1.2).bind fun q_2 =>
    (putRL q_2 a0 1 2 n_1.1).bind fun M_3 =>
    (newCL M_3 20 99).bind fun n_4 =>
    (putRL n_4.2 a0 1 3 n_4.1).bind fun M_5 =>
    (newCL M_5 20 99).bind fun n_6 =>
    (putRL n_6.2 a0 1 4 n_6.1).bind fun M_7 =>
    (newCL M_7 20 99).bind fun n_8 =>
    (putRL n_8.2 a0 1 5 n_8.1).bind fun M_9 =>
    (newCL M_9 20 99).bind fun n_10 =>
    (putRL n_10.2 a0 1 6 n_10.1).bind fun M_11 =>
    (putIL M_11 a0 1 7 0).bind fun M_12 =>
    (putRL M_12 a0 1 0 a1).bind fun M_13 =>
    (putRL M_13 a0 1 1 a2).bind fun M_14 =>
    some M_14)
theorem o_p0_init {g : Nat} (a0 : Nat) (a1 : Nat) (a2 : Nat) (M : List qO) : p0_init (g + 1 + a0) (g + 1 + a1) (g + 1 + a2) (ofL g M) = (L0_init a0 a1 a2 M).map (ofL g) := by
  simp only [p0_init, L0_init, o_gd, o_newC, o_putI, o_putR, o_getR, o_lenA, o_astI, o_astR, o_gdm, o_ite, fP1, fP2, fA, Option.bind_map, Option.map_bind, Function.comp_def, Option.map_some, Option.map_none, ne_eq, not_false_eq_true, Nat.reduceEqDiff, one_ne_zero9, reduceCtorEq, Nat.succ_ne_zero, o_p8_init, o_p6_init, o_p2_init_L81, o_p2_init, o_p4_init, o_p3_sinit, o_p5_sinit, o_p3_init, o_p5_init, o_p1_init]
def L7_init (a0 : Nat) (a1 : Nat) (M : (List qO)) : Option (List qO) :=
  gdL M a0 8 (
    (newCL M 20 8).bind fun n_1 =>
    (putRL n_1.2 a0 8 1 n_1.1).bind fun M_2 =>
    (newCL M_2 20 8).bind fun n_3 =>
    (putRL n_3.2 a0 8 2 n_3.1).bind fun M_4 =>
    (newCL M_4 20 8).bind fun n_5 =>
    (putRL n_5.2 a0 8 3 n_5.1).bind fun M_6 =>
    (putIL M_6 a0 8 4 0).bind fun M_7 =>
    (putIL M_7 a0 8 5 0).bind fun M_8 =>
    (putRL M_8 a0 8 0 a1).bind fun M_9 =>
    some M_9)
theorem o_p7_init {g : Nat} (a0 : Nat) (a1 : Nat) (M : List qO) : p7_init (g + 1 + a0) (g + 1 + a1) (ofL g M) = (L7_init a0 a1 M).map (ofL g) := by
  simp only [p7_init, L7_init, o_gd, o_newC, o_putI, o_putR, o_getR, o_lenA, o_astI, o_astR, o_gdm, o_ite, fP1, fP2, fA, Option.bind_map, Option.map_bind, Function.comp_def, Option.map_some, Option.map_none, ne_eq, not_false_eq_true, Nat.reduceEqDiff, one_ne_zero9, reduceCtorEq, Nat.succ_ne_zero, o_p8_init, o_p6_init, o_p2_init_L81, o_p2_init, o_p4_init, o_p3_sinit, o_p5_sinit, o_p3_init, o_p5_init, o_p1_init, o_p0_init]
def L10_init (a0 : Nat) (a1 : Nat) (M : (List qO)) : Option (List qO) :=
  gdL M a0 10 (
    (putRL M a0 10 0 a1).bind fun M_1 =>
    some M_1)
theorem o_p10_init {g : Nat} (a0 : Nat) (a1 : Nat) (M : List qO) : p10_init (g + 1 + a0) (g + 1 + a1) (ofL g M) = (L10_init a0 a1 M).map (ofL g) := by
  simp only [p10_init, L10_init, o_gd, o_newC, o_putI, o_putR, o_getR, o_lenA, o_astI, o_astR, o_gdm, o_ite, fP1, fP2, fA, Option.bind_map, Option.map_bind, Function.comp_def, Option.map_some, Option.map_none, ne_eq, not_false_eq_true, Nat.reduceEqDiff, one_ne_zero9, reduceCtorEq, Nat.succ_ne_zero, o_p8_init, o_p6_init, o_p2_init_L81, o_p2_init, o_p4_init, o_p3_sinit, o_p5_sinit, o_p3_init, o_p5_init, o_p1_init, o_p0_init, o_p7_init]
def L11_init_L208 : Nat → Nat → Int32 → (List qO) → Option (List qO)
  | 0, _, _, _ => none
  | n + 1, a0, x1, M =>
    (getRL M a0 11 9).bind fun v_1 =>
    (lenAL M v_1).bind fun v_2 =>
    if x1 < v_2 then
      (getRL M a0 11 9).bind fun v_3 =>
      (newCL M 3 0).bind fun n_4 =>
      (L2_init n_4.1 n_4.2).bind fun q_5 =>
      (astRL q_5 v_3 23 3 x1 n_4.1).bind fun M_6 =>
      (L11_init_L208 n) a0 (x1 + 1) M_6
    else
      some M
theorem o_p11_init_L208 {g : Nat} : ∀ (n a : Nat) (x : Int32) (l : List qO), p11_init_L208 n (g + 1 + a) x (ofL g l) = (L11_init_L208 n a x l).map (ofL g) := by
  intro n
  induction n with
  | zero => intro a x l; rfl
  | succ n ih =>
    intro a x l
    simp only [p11_init_L208, L11_init_L208, o_gd, o_newC, o_putI, o_putR, o_getR, o_lenA, o_astI, o_astR, o_gdm, o_ite, fP1, fP2, fA, Option.bind_map, Option.map_bind, Function.comp_def, Option.map_some, Option.map_none, ne_eq, not_false_eq_true, Nat.reduceEqDiff, one_ne_zero9, reduceCtorEq, Nat.succ_ne_zero, o_p8_init, o_p6_init, o_p2_init_L81, o_p2_init, o_p4_init, o_p3_sinit, o_p5_sinit, o_p3_init, o_p5_init, o_p1_init, o_p0_init, o_p7_init, o_p10_init, ih]
def L11_init (a0 : Nat) (M : (List qO)) : Option (List qO) :=
  gdL M a0 11 (
    (newCL M 20 400).bind fun n_1 =>
    (putRL n_1.2 a0 11 0 n_1.1).bind fun M_2 =>
    (putIL M_2 a0 11 1 0).bind fun M_3 =>
    (putIL M_3 a0 11 2 (-1)).bind fun M_4 =>
    (newCL M_4 3 0).bind fun n_5 =>
    (L2_init n_5.1 n_5.2).bind fun q_6 =>
    (putRL q_6 a0 11 3 n_5.1).bind fun M_7 =>
    (newCL M_7 3 0).bind fun n_8 =>
    (L2_init n_8.1 n_8.2).bind fun q_9 =>
    (putRL q_9 a0 11 4 n_8.1).bind fun M_10 =>
    (newCL M_10 5 0).bind fun n_11 =>
    (L4_init n_11.1 n_11.2).bind fun q_12 =>
    (putRL q_12 a0 11 5 n_11.1).bind fun M_13 =>
    (newCL M_13 5 0).bind fun n_14 =>
    (L4_init n_14.1 n_14.2).bind fun q_15 =>
    (putRL q_15 a0 11 6 n_14.1).bind fun M_16 =>
    (newCL M_16 4 0).bind fun n_17 =>
    (getRL n_17.2 a0 11 4).bind fun v_18 =>
    (L3_init n_17.1 v_18 n_17.2).bind fun q_19 =>
    (putRL q_19 a0 11 7 n_17.1).bind fun M_20 =>
    (newCL M_20 6 0).bind fun n_21 =>
    (getRL n_21.2 a0 11 6).bind fun v_22 =>
    (L5_init n_21.1 v_22 n_21.2).bind fun q_23 =>
    (putRL q_23 a0 11 8 n_21.1).bind fun M_24 =>
    (newCL M_24 23 12).bind fun n_25 =>
    (putRL n_25.2 a0 11 9 n_25.1).bind fun M_26 =>
    (putIL M_26 a0 11 10 0).bind fun M_27 =>
    (newCL M_27 3 0).bind fun n_28 =>
    (L2_init n_28.1 n_28.2).bind fun q_29 =>
    (putRL q_29 a0 11 11 n_28.1).bind fun M_30 =>
    (newCL M_30 5 0).bind fun n_31 =>
    (L4_init n_31.1 n_31.2).bind fun q_32 =>
    (putRL q_32 a0 11 12 n_31.1).bind fun M_33 =>
    (putIL M_33 a0 11 13 0).bind fun M_34 =>
    (newCL M_34 2 0).bind fun n_35 =>
    (getRL n_35.2 a0 11 3).bind fun v_36 =>
    (getRL n_35.2 a0 11 5).bind fun v_37 =>
    (L1_init n_35.1 v_36 v_37 n_35.2).bind fun q_38 =>
    (putRL q_38 a0 11 14 n_35.1).bind fun M_39 =>
    (newCL M_39 1 0).bind fun n_40 =>
    (getRL n_40.2 a0 11 3).bind fun v_41 =>
    (getRL n_40.2 a0 11 5).bind fun v_42 =>
    (L0_init n_40.1 v_41 v_42 n_40.2).bind fun q_43 =>
    (putRL q_43 a0 11 15 n_40.1).bind fun M_44 =>
    (newCL M_44 8 0).bind fun n_45 =>
    (getRL n_45.2 a0 11 3).bind fun v_46 =>
    (L7_init n_45.1 v_46 n_45.2).bind fun q_47 =>
    (putRL q_47 a0 11 16 n_45.1).bind fun M_48 =>
    (newCL M_48 10 0).bind fun n_49 =>
    (getRL n_49.2 a0 11 3).bind fun v_50 =>
    (L10_init n_49.1 v_50 n_49.2).bind fun q_51 =>
    (putRL q_51 a0 11 17 n_49.1).bind fun M_52 =>
    L11_init_L208 13 a0 0 M_52)
theorem o_p11_init {g : Nat} (a0 : Nat) (M : List qO) : p11_init (g + 1 + a0) (ofL g M) = (L11_init a0 M).map (ofL g) := by
  simp only [p11_init, L11_init, o_gd, o_newC, o_putI, o_putR, o_getR, o_lenA, o_astI, o_astR, o_gdm, o_ite, fP1, fP2, fA, Option.bind_map, Option.map_bind, Function.comp_def, Option.map_some, Option.map_none, ne_eq, not_false_eq_true, Nat.reduceEqDiff, one_ne_zero9, reduceCtorEq, Nat.succ_ne_zero, o_p8_init, o_p6_init, o_p2_init_L81, o_p2_init, o_p4_init, o_p3_sinit, o_p5_sinit, o_p3_init, o_p5_init, o_p1_init, o_p0_init, o_p7_init, o_p10_init, o_p11_init_L208]
def L12_init (a0 : Nat) (M : (List qO)) : Option (List qO) :=
  gdL M a0 12 (
    (newCL M 20 2143).bind fun n_1 =>
    (putRL n_1.2 a0 12 1 n_1.1).bind fun M_2 =>
    (newCL M_2 20 1294).bind fun n_3 =>
    (putRL n_3.2 a0 12 2 n_3.1).bind fun M_4 =>
    (newCL M_4 20 1294).bind fun n_5 =>
    (putRL n_5.2 a0 12 3 n_5.1).bind fun M_6 =>
    (newCL M_6 20 445).bind fun n_7 =>
    (putRL n_7.2 a0 12 4 n_7.1).bind fun M_8 =>
    (newCL M_8 20 5340).bind fun n_9 =>
    (putRL n_9.2 a0 12 5 n_9.1).bind fun M_10 =>
    (newCL M_10 21 400).bind fun n_11 =>
    (putRL n_11.2 a0 12 8 n_11.1).bind fun M_12 =>
    (putIL M_12 a0 12 14 (-1)).bind fun M_13 =>
    (newCL M_13 20 5).bind fun n_14 =>
    (putRL n_14.2 a0 12 15 n_14.1).bind fun M_15 =>
    (newCL M_15 20 400).bind fun n_16 =>
    (putRL n_16.2 a0 12 17 n_16.1).bind fun M_17 =>
    (newCL M_17 20 99).bind fun n_18 =>
    (putRL n_18.2 a0 12 18 n_18.1).bind fun M_19 =>
    (newCL M_19 20 99).bind fun n_20 =>
    (putRL n_20.2 a0 12 19 n_20.1).bind fun M_21 =>
    (newCL M_21 20 99).bind fun n_22 =>
    (putRL n_22.2 a0 12 20 n_22.1).bind fun M_23 =>
    (newCL M_23 20 99).bind fun n_24 =>
    (putRL n_24.2 a0 12 22 n_24.1).bind fun M_25 =>
    (newCL M_25 20 2304).bind fun n_26 =>
    (putRL n_26.2 a0 12 23 n_26.1).bind fun M_27 =>
    (newCL M_27 20 8).bind fun n_28 =>
    (putRL n_28.2 a0 12 24 n_28.1).bind fun M_29 =>
    (newCL M_29 20 8).bind fun n_30 =>
    (putRL n_30.2 a0 12 25 n_30.1).bind fun M_31 =>
    (newCL M_31 22 4).bind fun n_32 =>
    (putRL n_32.2 a0 12 26 n_32.1).bind fun M_33 =>
    (getRL M_33 a0 12 1).bind fun v_34 =>
    (astIL M_33 v_34 4 90).bind fun M_35 =>
    (getRL M_35 a0 12 1).bind fun v_36 =>
    (astIL M_35 v_36 5 5).bind fun M_37 =>
    (getRL M_37 a0 12 1).bind fun v_38 =>
    (astIL M_37 v_38 6 1).bind fun M_39 =>
    (getRL M_39 a0 12 1).bind fun v_40 =>
    (astIL M_39 v_40 8 1).bind fun M_41 =>
    some M_41)
theorem o_p12_init {g : Nat} (a0 : Nat) (M : List qO) : p12_init (g + 1 + a0) (ofL g M) = (L12_init a0 M).map (ofL g) := by
  simp only [p12_init, L12_init, o_gd, o_newC, o_putI, o_putR, o_getR, o_lenA, o_astI, o_astR, o_gdm, o_ite, fP1, fP2, fA, Option.bind_map, Option.map_bind, Function.comp_def, Option.map_some, Option.map_none, ne_eq, not_false_eq_true, Nat.reduceEqDiff, one_ne_zero9, reduceCtorEq, Nat.succ_ne_zero, o_p8_init, o_p6_init, o_p2_init_L81, o_p2_init, o_p4_init, o_p3_sinit, o_p5_sinit, o_p3_init, o_p5_init, o_p1_init, o_p0_init, o_p7_init, o_p10_init, o_p11_init_L208, o_p11_init]
