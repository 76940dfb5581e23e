/-! laws: kinds, amounts, begins, ends, steps, numbers, how many, whether there is one -/
abbrev Lw : Type := (Nat → Nat) × (Nat → Int32) × (Nat → Nat) × (Nat → Nat) × (Nat → Nat) × (Nat → Int32) × Nat × Bool
def lwK (L : Lw) : Nat → Nat := L.1
def lwA (L : Lw) : Nat → Int32 := L.2.1
def lwB (L : Lw) : Nat → Nat := L.2.2.1
def lwE (L : Lw) : Nat → Nat := L.2.2.2.1
def lwO (L : Lw) : Nat → Nat := L.2.2.2.2.1
def lwN (L : Lw) : Nat → Int32 := L.2.2.2.2.2.1
def lwC (L : Lw) : Nat := L.2.2.2.2.2.2.1
def lwH (L : Lw) : Bool := L.2.2.2.2.2.2.2
/-- the class's number of a step -/
def clS (o : Nat) : Nat := [26, 27, 6, 28, 29, 16, 12, 24, 25, 2, 43, 60, 62, 23, 22, 21].getD o 0
def LIs (s : tS) (b : Nat) (L : Lw) : Prop := s b 9 = (if lwH L = true then Int32.ofNat (lwC L) else -1) ∧ ∀ i, i < lwC L → s (b + 1) i = Int32.ofNat (17 + lwK L i) ∧ s (b + 2) i = lwA L i ∧ s (b + 3) i = Int32.ofNat (lwB L i) ∧ s (b + 4) i = Int32.ofNat (lwE L i) ∧ ∀ j, lwB L i ≤ j → j < lwE L i → s (b + 5) j = Int32.ofNat (clS (lwO L j)) ∧ s (b + 6) j = lwN L j
def LMw (w : Nat → Int32) (L : Lw) : Prop := w 2 = ib (lwH L) ∧ (lwH L = true → w 445 = Int32.ofNat (lwC L)) ∧ ∀ i, i < lwC L → w (446 + 4 * i) = Int32.ofNat (lwK L i) ∧ w (446 + 4 * i + 1) = (if lwK L i = 2 then 1 else lwA L i) ∧ w (446 + 4 * i + 2) = Int32.ofNat (lwB L i) ∧ w (446 + 4 * i + 3) = Int32.ofNat (lwE L i) ∧ ∀ j, lwB L i ≤ j → j < lwE L i → w (494 + 2 * j) = Int32.ofNat (lwO L j) ∧ w (494 + 2 * j + 1) = lwN L j
abbrev LMs (s : tS) (L : Lw) : Prop := LMw (s 288) L
/-- the kinds of the values that lie there: true: 0 or 1 -/
abbrev Ty : Type := (Nat → Bool) × Nat
def tyS (o : Nat) (h : Ty) : Option Ty :=
  if o ≤ 5 ∨ o = 9 then some (up1 h.1 h.2 false, h.2 + 1)
  else if o ≤ 8 then some (up1 h.1 h.2 true, h.2 + 1)
  else if o = 13 then (if 0 < h.2 ∧ h.1 (h.2 - 1) = true then some h else none)
  else if o = 10 then (if 2 ≤ h.2 ∧ h.1 (h.2 - 2) = false ∧ h.1 (h.2 - 1) = false then some (h.1, h.2 - 1) else none)
  else if o = 11 ∨ o = 12 then (if 2 ≤ h.2 ∧ h.1 (h.2 - 2) = false ∧ h.1 (h.2 - 1) = false then some (up1 h.1 (h.2 - 2) true, h.2 - 1) else none)
  else if o = 14 ∨ o = 15 then (if 2 ≤ h.2 ∧ h.1 (h.2 - 2) = true ∧ h.1 (h.2 - 1) = true then some (h.1, h.2 - 1) else none)
  else none
def tyR (O : Nat → Nat) : Nat → Nat → Ty → Option Ty
  | 0, _, h => some h
  | n + 1, i, h => (tyS (O i) h).bind (tyR O n (i + 1))
def tyOk (O : Nat → Nat) (b e : Nat) : Prop := b = e ∨ ∃ h', tyR O (e - b) b (fun _ => false, 0) = some h' ∧ h'.2 = 1 ∧ h'.1 0 = true
def VL (L : Lw) : Prop := lwC L ≤ 12 ∧ (lwH L = false → lwC L = 0) ∧ ∀ i, i < lwC L → lwK L i ≤ 2 ∧ bw 0 60 (lwA L i) ∧ (lwK L i = 2 → lwA L i = 0) ∧ lwB L i ≤ lwE L i ∧ lwE L i ≤ 400 ∧ tyOk (lwO L) (lwB L i) (lwE L i)
/-! what holds -/
abbrev Vs : Type := (Nat → Int32) × Nat
def opV (o : Nat) (a b : Int32) : Int32 := if o = 10 then a + b else if o = 11 then ib (decide (a < b)) else if o = 12 then ib (decide (b < a)) else if o = 14 then a &&& b else a ||| b
def evS (o : Nat) (fact : Int32) (v : Vs) : Vs :=
  if o ≤ 9 then (up1 v.1 v.2 fact, v.2 + 1)
  else if o = 13 then (up1 v.1 (v.2 - 1) (1 - v.1 (v.2 - 1)), v.2)
  else (up1 v.1 (v.2 - 2) (opV o (v.1 (v.2 - 2)) (v.1 (v.2 - 1))), v.2 - 1)
def factF (C : Co) (p q o : Nat) (num : Int32) : Int32 :=
  if o = 0 then Int32.ofNat p else if o = 1 then Int32.ofNat q else if o = 2 then C.2 q 0 else if o = 3 then C.2 p 0 else if o = 4 then maxI 0 (C.2 q 1) else if o = 5 then C.1 3
  else if o = 6 then (if C.2 q 4 = -1 then 0 else 1) else if o = 7 then (if C.2 q 3 = Int32.ofNat p then 1 else 0) else if o = 8 then (if C.2 q 0 < C.1 5 then 1 else 0) else num
def evR (L : Lw) (C : Co) (p q : Nat) : Nat → Nat → Vs → Vs
  | 0, _, v => v
  | n + 1, i, v => evR L C p q n (i + 1) (evS (lwO L i) (factF C p q (lwO L i) (lwN L i)) v)
def v00 : Vs := (fun _ => 0, 0)
def holdsF (L : Lw) (C : Co) (p q i : Nat) : Bool := decide ((evR L C p q (lwE L i - lwB L i) (lwB L i) v00).2 = 0 ∨ (evR L C p q (lwE L i - lwB L i) (lwB L i) v00).1 0 = 1)
/-- a line counts for a kind -/
def cntF (L : Lw) (C : Co) (p q k i : Nat) : Bool := decide (lwK L i = k) && holdsF L C p q i
def calmF (L : Lw) (C : Co) (p q : Nat) : Nat → Bool
  | 0 => false
  | n + 1 => calmF L C p q n || cntF L C p q 2 n
def sumF (L : Lw) (C : Co) (p q k : Nat) (z : Int32) : Nat → Int32
  | 0 => z
  | n + 1 => if cntF L C p q k n = true then sumF L C p q k z n + lwA L n else sumF L C p q k z n
def yn (y : Bool) : Nat := if y = true then 1 else 0
def wtF (L : Lw) (C : Co) (p q : Nat) (y : Bool) : Int32 := if calmF L C p q (lwC L) = true then 0 else rem32 (sumF L C p q (yn y) (C.1 6) (lwC L)) (C.1 4)
/-! the values' kinds hold -/
def VT (h : Ty) (v : Vs) : Prop := h.2 = v.2 ∧ ∀ j, j < v.2 → h.1 j = true → (v.1 j = 0 ∨ v.1 j = 1)
theorem fact_01 {C : Co} {p q o : Nat} {num : Int32} (h5 : ¬ (o ≤ 5 ∨ o = 9)) (h8 : o ≤ 8) : factF C p q o num = 0 ∨ factF C p q o num = 1 := by
  have : o = 6 ∨ o = 7 ∨ o = 8 := by omega
  rcases this with rfl | rfl | rfl
  · show (if C.2 q 4 = -1 then (0 : Int32) else 1) = 0 ∨ (if C.2 q 4 = -1 then (0 : Int32) else 1) = 1
    by_cases e : C.2 q 4 = -1 <;> simp [e]
  · show (if C.2 q 3 = Int32.ofNat p then (1 : Int32) else 0) = 0 ∨ (if C.2 q 3 = Int32.ofNat p then (1 : Int32) else 0) = 1
    by_cases e : C.2 q 3 = Int32.ofNat p <;> simp [e]
  · show (if C.2 q 0 < C.1 5 then (1 : Int32) else 0) = 0 ∨ (if C.2 q 0 < C.1 5 then (1 : Int32) else 0) = 1
    by_cases e : C.2 q 0 < C.1 5 <;> simp [e]
theorem b_and {a b : Int32} (ha : a = 0 ∨ a = 1) (hb : b = 0 ∨ b = 1) : (a &&& b = 0 ∨ a &&& b = 1) ∧ (a &&& b) = (if a + b = 2 then 1 else 0) := by
  rcases ha with rfl | rfl <;> rcases hb with rfl | rfl <;> decide
theorem b_or {a b : Int32} (ha : a = 0 ∨ a = 1) (hb : b = 0 ∨ b = 1) : (a ||| b = 0 ∨ a ||| b = 1) ∧ (a ||| b) = (if 0 < a + b then 1 else 0) := by
  rcases ha with rfl | rfl <;> rcases hb with rfl | rfl <;> decide
theorem b_not {a : Int32} (ha : a = 0 ∨ a = 1) : (1 - a = 0 ∨ 1 - a = 1) := by
  rcases ha with rfl | rfl <;> decide
theorem ib_01 {b : Bool} : ib b = 0 ∨ ib b = 1 := by cases b <;> decide
/-- a step keeps the kinds; what a step of each sort asks for -/
theorem VT_step {o : Nat} {h h' : Ty} {v : Vs} {C : Co} {p q : Nat} {num : Int32} (hs : tyS o h = some h') (hv : VT h v) : VT h' (evS o (factF C p q o num) v) ∧ o < 16 ∧ (o = 13 → 0 < v.2) ∧ (10 ≤ o → o ≠ 13 → 2 ≤ v.2) ∧ (o = 14 ∨ o = 15 → (v.1 (v.2 - 2) = 0 ∨ v.1 (v.2 - 2) = 1) ∧ (v.1 (v.2 - 1) = 0 ∨ v.1 (v.2 - 1) = 1)) := by
  obtain ⟨e2, hv⟩ := hv
  unfold tyS at hs
  split at hs
  · rename_i h1
    have e := (Option.some.inj hs).symm
    subst e
    refine ⟨⟨?_, ?_⟩, by omega, by omega, by omega, by omega⟩
    · rw [evS, if_pos (by omega)]
      show h.2 + 1 = v.2 + 1
      rw [e2]
    · intro j hj ht
      rw [evS, if_pos (by omega)] at hj ⊢
      simp only [up1] at ht ⊢
      by_cases ej : j = h.2
      · simp [ej] at ht
      · have ej' : ¬ j = v.2 := by omega
        simp only [ej, if_false] at ht
        simp only [ej', if_false]
        exact hv j (by have : j < v.2 + 1 := hj; omega) ht
  split at hs
  · rename_i h1 h2
    have e := (Option.some.inj hs).symm
    subst e
    refine ⟨⟨?_, ?_⟩, by omega, by omega, by omega, by omega⟩
    · rw [evS, if_pos (by omega)]
      show h.2 + 1 = v.2 + 1
      rw [e2]
    · intro j hj ht
      rw [evS, if_pos (by omega)] at hj ⊢
      simp only [up1] at ht ⊢
      by_cases ej : j = v.2
      · simp only [ej, if_true]
        exact fact_01 h1 h2
      · have ej' : ¬ j = h.2 := by omega
        simp only [ej', if_false] at ht
        simp only [ej, if_false]
        exact hv j (by have : j < v.2 + 1 := hj; omega) ht
  split at hs
  · rename_i h1 h2 h3
    split at hs
    · rename_i h4
      have e := (Option.some.inj hs).symm
      subst e
      refine ⟨⟨?_, ?_⟩, by omega, fun _ => by omega, by omega, by omega⟩
      · rw [evS, if_neg (by omega), if_pos h3]
        exact e2
      · intro j hj ht
        rw [evS, if_neg (by omega), if_pos h3] at hj ⊢
        simp only [up1]
        by_cases ej : j = v.2 - 1
        · subst ej
          simp only [if_true]
          exact b_not (hv _ (by omega) ht)
        · simp only [ej, if_false]
          exact hv j hj ht
    · exact absurd hs (by simp)
  split at hs
  · rename_i h1 h2 h3 h4
    split at hs
    · rename_i h5
      have e := (Option.some.inj hs).symm
      subst e
      refine ⟨⟨?_, ?_⟩, by omega, by omega, fun _ _ => by omega, by omega⟩
      · rw [evS, if_neg (by omega), if_neg h3]
        show h.2 - 1 = v.2 - 1
        rw [e2]
      · intro j hj ht
        rw [evS, if_neg (by omega), if_neg h3] at hj ⊢
        have hj' : j < v.2 - 1 := hj
        have ht' : h.1 j = true := ht
        simp only [up1]
        by_cases ej : j = v.2 - 2
        · subst ej
          rw [← e2, h5.2.1] at ht'
          exact absurd ht' (by decide)
        · simp only [ej, if_false]
          exact hv j (by omega) ht'
    · exact absurd hs (by simp)
  split at hs
  · rename_i h1 h2 h3 h4 h5
    split at hs
    · rename_i h6
      have e := (Option.some.inj hs).symm
      subst e
      refine ⟨⟨?_, ?_⟩, by omega, by omega, fun _ _ => by omega, by omega⟩
      · rw [evS, if_neg (by omega), if_neg h3]
        show h.2 - 1 = v.2 - 1
        rw [e2]
      · intro j hj ht
        rw [evS, if_neg (by omega), if_neg h3] at hj ⊢
        have hj' : j < v.2 - 1 := hj
        simp only [up1] at ht ⊢
        by_cases ej : j = v.2 - 2
        · simp only [ej, if_true, opV]
          rcases h5 with rfl | rfl
          · exact ib_01
          · exact ib_01
        · have ej' : ¬ j = h.2 - 2 := by omega
          simp only [ej', if_false] at ht
          simp only [ej, if_false]
          exact hv j (by omega) ht
    · exact absurd hs (by simp)
  split at hs
  · rename_i h1 h2 h3 h4 h5 h6
    split at hs
    · rename_i h7
      have e := (Option.some.inj hs).symm
      subst e
      have q1 := hv (v.2 - 2) (by omega) (by rw [← e2]; exact h7.2.1)
      have q2 := hv (v.2 - 1) (by omega) (by rw [← e2]; exact h7.2.2)
      refine ⟨⟨?_, ?_⟩, by omega, by omega, fun _ _ => by omega, fun _ => ⟨q1, q2⟩⟩
      · rw [evS, if_neg (by omega), if_neg h3]
        show h.2 - 1 = v.2 - 1
        rw [e2]
      · intro j hj ht
        rw [evS, if_neg (by omega), if_neg h3] at hj ⊢
        have hj' : j < v.2 - 1 := hj
        have ht' : h.1 j = true := ht
        simp only [up1]
        by_cases ej : j = v.2 - 2
        · simp only [ej, if_true, opV]
          rcases h6 with rfl | rfl
          · exact (b_and q1 q2).1
          · exact (b_or q1 q2).1
        · simp only [ej, if_false]
          exact hv j (by omega) ht'
    · exact absurd hs (by simp)
  · exact absurd hs (by simp)
