/-! the tables' words that stay: all methods' words are these -/
def gPriv : List Cond := [.selects "CribLine$FamilyReader" yX9_partText yX9_partText, .selects "CribLine$FamilyReader" yX9_endOfThing yX9_endOfThing, .selects "CribLine$FamilyReader" yX9_addThing yX9_addThing, .selects "CribLine$FamilyReader" yX9_beginOfNext yX9_beginOfNext, .selects "CribLine$LawReader" yX9_partText yX9_partText, .selects "CribLine$LawReader" yX9_endOfThing yX9_endOfThing, .selects "CribLine$LawReader" yX9_addThing yX9_addThing, .selects "CribLine$LawReader" yX9_beginOfNext yX9_beginOfNext]
def gTbl : List Cond := gPriv ++ lw_tbl.filter goodWord
theorem gPriv_good : gPriv.all goodWord = true := rfl
theorem lw_mem {w : Cond} (i : Nat) (h : tables_1[i]? = some w) (hg : goodWord w = true) : w ∈ gTbl := List.mem_append_right _ (List.mem_filter.mpr ⟨List.mem_append_right _ (List.mem_of_getElem? h), hg⟩)
theorem lw_memp {w : Cond} (i : Nat) (h : (k2_sels lw_privs)[i]? = some w) (hg : goodWord w = true) : w ∈ gTbl := List.mem_append_right _ (List.mem_filter.mpr ⟨List.mem_append_left _ (List.mem_of_getElem? h), hg⟩)
theorem lw_memq {w : Cond} (i : Nat) (h : gPriv[i]? = some w) : w ∈ gTbl := List.mem_append_left _ (List.mem_of_getElem? h)
theorem gTbl_good {w : Cond} (h : w ∈ gTbl) : goodWord w = true := (List.mem_append.mp h).elim (fun h => List.all_eq_true.mp gPriv_good w h) (fun h => (List.mem_filter.mp h).2)
/-! the pure memory: kinds of cells, lengths of rows, ints, references, longs, the next address (0: nothing more is made) -/
abbrev mMem : Type := (Nat → Nat) × (Nat → Nat) × (Nat → Nat → Int32) × (Nat → Nat → Nat) × (Nat → Nat → Int64) × Nat
def mK (M : mMem) : Nat → Nat := M.1
def mN (M : mMem) : Nat → Nat := M.2.1
def mI (M : mMem) : Nat → Nat → Int32 := M.2.2.1
def mR (M : mMem) : Nat → Nat → Nat := M.2.2.2.1
def mL (M : mMem) : Nat → Nat → Int64 := M.2.2.2.2.1
def mX (M : mMem) : Nat := M.2.2.2.2.2
def up2 {α : Type} (f : Nat → Nat → α) (a k : Nat) (v : α) : Nat → Nat → α := fun b j => if b = a ∧ j = k then v else f b j
def sI (M : mMem) (a k : Nat) (v : Int32) : mMem := (mK M, mN M, up2 (mI M) a k v, mR M, mL M, mX M)
def sR (M : mMem) (a k : Nat) (v : Nat) : mMem := (mK M, mN M, mI M, up2 (mR M) a k v, mL M, mX M)
def sL (M : mMem) (a k : Nat) (v : Int64) : mMem := (mK M, mN M, mI M, mR M, up2 (mL M) a k v, mX M)
def up1 {α : Type} (f : Nat → α) (a : Nat) (v : α) : Nat → α := fun b => if b = a then v else f b
/-- a new cell of a kind, of a length -/
def nC (M : mMem) (kind len : Nat) : mMem := (up1 (mK M) (mX M) kind, up1 (mN M) (mX M) len, up1 (mI M) (mX M) (fun _ => 0), up1 (mR M) (mX M) (fun _ => 0), up1 (mL M) (mX M) (fun _ => 0), mX M + 1)
/-- a copy of a stretch of ints -/
def cI (M : mMem) (a b sp dp n : Nat) : mMem := (mK M, mN M, up1 (mI M) b (fun k => if dp ≤ k ∧ k < dp + n then mI M a (sp + (k - dp)) else mI M b k), mR M, mL M, mX M)
/-- nothing more is made -/
def mF (M : mMem) : mMem := (mK M, mN M, mI M, mR M, mL M, 0)
/-! what the walks read and write: none where the machine would throw -/
def getI (M : mMem) (a c k : Nat) : Option Int32 := if mK M a = c then some (mI M a k) else none
def getR (M : mMem) (a c k : Nat) : Option Nat := if mK M a = c ∧ mR M a k ≠ 0 then some (mR M a k) else none
def putI (M : mMem) (a c k : Nat) (v : Int32) : Option mMem := if mK M a = c then some (sI M a k v) else none
def putR (M : mMem) (a c k : Nat) (v : Nat) : Option mMem := if mK M a = c ∧ v ≠ 0 then some (sR M a k v) else none
def isIn (M : mMem) (a c : Nat) (j : Int32) : Prop := mK M a = c ∧ 0 ≤ j ∧ j.toNatClampNeg < mN M a
theorem isIn_def (M : mMem) (a c : Nat) (j : Int32) : isIn M a c j ↔ (mK M a = c ∧ 0 ≤ j ∧ j.toNatClampNeg < mN M a) := Iff.rfl
def aldI (M : mMem) (a c : Nat) (j : Int32) : Option Int32 := if mK M a = c ∧ 0 ≤ j ∧ j.toNatClampNeg < mN M a then some (mI M a j.toNatClampNeg) else none
def aldL (M : mMem) (a : Nat) (j : Int32) : Option Int64 := if mK M a = 22 ∧ 0 ≤ j ∧ j.toNatClampNeg < mN M a then some (mL M a j.toNatClampNeg) else none
def aldR (M : mMem) (a c : Nat) (j : Int32) : Option Nat := if mK M a = c ∧ (0 ≤ j ∧ j.toNatClampNeg < mN M a) ∧ mR M a j.toNatClampNeg ≠ 0 then some (mR M a j.toNatClampNeg) else none
def astI (M : mMem) (a : Nat) (j v : Int32) : Option mMem := if mK M a = 20 ∧ 0 ≤ j ∧ j.toNatClampNeg < mN M a then some (sI M a j.toNatClampNeg v) else none
def astB (M : mMem) (a : Nat) (j v : Int32) : Option mMem := if mX M = 0 ∧ mK M a = 21 ∧ 0 ≤ j ∧ j.toNatClampNeg < mN M a then some (sI M a j.toNatClampNeg (vp_nar .byte v)) else none
def astL (M : mMem) (a : Nat) (j : Int32) (v : Int64) : Option mMem := if mX M = 0 ∧ mK M a = 22 ∧ 0 ≤ j ∧ j.toNatClampNeg < mN M a then some (sL M a j.toNatClampNeg v) else none
def astR (M : mMem) (a c d : Nat) (j : Int32) (v : Nat) : Option mMem := if mK M a = c ∧ (0 ≤ j ∧ j.toNatClampNeg < mN M a) ∧ mK M v = d ∧ v ≠ 0 then some (sR M a j.toNatClampNeg v) else none
def lenA (M : mMem) (a : Nat) : Option Int32 := if 20 ≤ mK M a ∧ mK M a ≤ 24 then some (Int32.ofNat (mN M a)) else none
def newC (M : mMem) (kind len : Nat) : Option (Nat × mMem) := if mX M ≠ 0 then some (mX M, nC M kind len) else none
def cpyI (M : mMem) (a : Nat) (sp : Int32) (b : Nat) (dp n : Int32) : Option mMem :=
  if mX M = 0 ∧ mK M a = 20 ∧ mK M b = 20 ∧ 0 ≤ sp ∧ 0 ≤ dp ∧ 0 ≤ n ∧ sp.toNatClampNeg + n.toNatClampNeg ≤ mN M a ∧ dp.toNatClampNeg + n.toNatClampNeg ≤ mN M b then some (cI M a b sp.toNatClampNeg dp.toNatClampNeg n.toNatClampNeg) else none
def divI (x y : Int32) : Option Int32 := if y = 0 then none else some (x / y)
def remI (x y : Int32) : Option Int32 := if y = 0 then none else some (x - x / y * y)
def divL (x y : Int64) : Option Int64 := if y = 0 then none else some (x / y)
def maxI (x y : Int32) : Int32 := if x < y then y else x
def minI (x y : Int32) : Int32 := if y < x then y else x
def absI (x : Int32) : Int32 := if 0 ≤ x then x else 0 - x
def ushr (x y : Int32) : Int32 := (x.toUInt32 >>> (y.toUInt32 &&& Int32.toUInt32 31)).toInt32
def i2b (x : Int32) : Int32 := x.toInt8.toInt32
def i2c (x : Int32) : Int32 := (x.toUInt32 % 65536).toInt32
/-! the cells of the heap that a memory stands for -/
def rO (n : Nat) : Option Nat := if n = 0 then none else some n
/-- which slots of a class (by its number in vwCl) are references -/
def mskL : List (List Bool) := [[true, true, true, true, true, true, true, false], [true, true, true], [true, true, true, true, false, false, false, false, false, false, false], [true, true, true, false, false, false, false, false, true], [true, true, true, true, true, true, true, true, false, false], [true, true, true, false, false, false, false, false, true], [true, false, false], [true, true, true, true, false, false], [false, false, false, false, false, false, false, false, false], [true], [true, false, false, true, true, true, true, true, true, true, false, true, true, false, true, true, true, true], [false, true, true, true, true, true, false, false, true, false, false, false, false, false, false, true, false, true, true, true, true, false, true, true, true, true, true]]
def flds (c : Nat) (M : mMem) (a : Nat) : List Value := (mskL.getD c []).mapIdx (fun k b => if b = true then va_rf (rO (mR M a k)) else .int (mI M a k))
/-- lo, the classes' numbers, the row classes by their kinds -/
abbrev gX : Type := Nat × va_G × (Nat → ClassId) × (Nat → Nat) × (Nat → Nat)
def gA (X : gX) : Nat → Prop := fun q => X.1 ≤ q
def cellE (X : gX) (M : mMem) (a : Nat) : va_E :=
  if mK M a = 20 then .inl (X.2.2.1 20, mN M a, .inl (mI M a))
  else if mK M a = 21 then .inl (X.2.2.1 21, mN M a, .inl (mI M a))
  else if mK M a = 22 then .inl (X.2.2.1 22, mN M a, .inr (.inl (mL M a)))
  else if mK M a = 23 then .inl (X.2.2.1 23, mN M a, .inr (.inr (.inr (.inr (fun j => rO (mR M a j))))))
  else if mK M a = 24 then .inl (X.2.2.1 24, mN M a, .inr (.inr (.inr (.inr (fun j => rO (mR M a j))))))
  else .inr (mK M a - 1, flds (mK M a - 1) M a)
def gT (X : gX) : List (ClassId × FieldType) := [(X.2.2.1 20, .int), (X.2.2.1 21, .byte), (X.2.2.1 22, .long), (X.2.2.1 23, .object "CribLine$Family"), (X.2.2.1 24, .object "CribLine$Person")]
def gHold (X : gX) (M : mMem) (H : Heap) : Prop := ∃ L : List Nat, (∀ a, a ∈ L ↔ mK M a ≠ 0) ∧ va_P X.2.1 vwCl (va_pl L (cellE X M)) H ∧ va_D (gA X) (va_pl L (cellE X M)) ∧ (mX M ≠ 0 → H.size = mX M)
theorem flds_len (c : Nat) (M : mMem) (a : Nat) : (flds c M a).length = (mskL.getD c []).length := by simp [flds]
theorem flds_I {c k : Nat} {M : mMem} {a : Nat} (h : (mskL.getD c [])[k]? = some false) : (flds c M a)[k]? = some (.int (mI M a k)) := by
  simp only [flds, List.getElem?_mapIdx, h]
  rfl
theorem flds_R {c k : Nat} {M : mMem} {a : Nat} (h : (mskL.getD c [])[k]? = some true) : (flds c M a)[k]? = some (va_rf (rO (mR M a k))) := by
  simp only [flds, List.getElem?_mapIdx, h]
  rfl
theorem flds_sI {c k : Nat} {M : mMem} {a : Nat} {v : Int32} (h : (mskL.getD c [])[k]? = some false) : (flds c M a).set k (.int v) = flds c (sI M a k v) a := by
  have hl : k < (mskL.getD c []).length := (List.getElem?_eq_some_iff.mp h).1
  apply List.ext_getElem?
  intro j
  by_cases hj : j = k
  · subst hj
    rw [flds_I h, List.getElem?_set_self (by rw [flds_len]; exact hl)]
    simp [sI, mI, up2]
  · rw [List.getElem?_set_ne (Ne.symm hj)]
    simp only [flds, List.getElem?_mapIdx]
    cases (mskL.getD c [])[j]? with
    | none => rfl
    | some b => simp [sI, mI, mR, up2, hj]
theorem flds_sR {c k : Nat} {M : mMem} {a : Nat} {v : Nat} (h : (mskL.getD c [])[k]? = some true) (hv : v ≠ 0) : (flds c M a).set k (.ref v) = flds c (sR M a k v) a := by
  have hl : k < (mskL.getD c []).length := (List.getElem?_eq_some_iff.mp h).1
  apply List.ext_getElem?
  intro j
  by_cases hj : j = k
  · subst hj
    rw [flds_R h, List.getElem?_set_self (by rw [flds_len]; exact hl)]
    simp [sR, mR, up2, rO, hv, va_rf]
  · rw [List.getElem?_set_ne (Ne.symm hj)]
    simp only [flds, List.getElem?_mapIdx]
    cases (mskL.getD c [])[j]? with
    | none => rfl
    | some b => simp [sR, mI, mR, up2, hj]
theorem flds_ne {c : Nat} {M M' : mMem} {a : Nat} (h1 : mI M' a = mI M a) (h2 : mR M' a = mR M a) : flds c M' a = flds c M a := by
  simp [flds, h1, h2]
/-- a cell changed: the pool of the changed memory -/
theorem hold_set {X : gX} {M M' : mMem} {a : Nat} {e : va_E} (he : cellE X M' a = e) (ho : ∀ b, b ≠ a → cellE X M' b = cellE X M b) (b : Nat) : va_up (cellE X M) a e b = cellE X M' b := by
  by_cases hb : b = a
  · subst hb
    simp [va_up, he]
  · simp [va_up, hb, ho b hb]
theorem cellE_ne {X : gX} {M M' : mMem} {a : Nat} (h0 : mK M' a = mK M a) (h1 : mN M' a = mN M a) (h2 : mI M' a = mI M a) (h3 : mR M' a = mR M a) (h4 : mL M' a = mL M a) : cellE X M' a = cellE X M a := by
  simp only [cellE, h0, h1, h2, h3, h4, flds_ne h2 h3]
theorem sI_ne {M : mMem} {a k : Nat} {v : Int32} {b : Nat} (h : b ≠ a) : mI (sI M a k v) b = mI M b := by
  funext j
  simp [sI, mI, up2, h]
theorem sR_ne {M : mMem} {a k : Nat} {v : Nat} {b : Nat} (h : b ≠ a) : mR (sR M a k v) b = mR M b := by
  funext j
  simp [sR, mR, up2, h]
theorem sL_ne {M : mMem} {a k : Nat} {v : Int64} {b : Nat} (h : b ≠ a) : mL (sL M a k v) b = mL M b := by
  funext j
  simp [sL, mL, up2, h]
