/-! what is written into families -/
theorem gIx_inj : ∀ k, k < 11 → ∀ k', k' < 11 → 4 ≤ k → 4 ≤ k' → gIx k = gIx k' → k = k' := by decide
theorem gIx_nz : ∀ k, k < 11 → 5 ≤ k → gIx k ≠ 0 := by decide
section
variable {s : tS} {b : Nat} {C : Co}
theorem Is.setP (h : Is s b C) {i k : Nat} {v : Int32} (hi : i < sz C) (hk : k < 9) : Is (up2 s (b + 6 + i) k v) b (stP C i k v) := by
  obtain ⟨h1, h2, h3, h4, h5, h6, h7⟩ := h
  refine ⟨h1, h2, ?_, ?_, ?_, ?_, ?_⟩
  · intro k' a c
    rw [up2_ne (by omega)]
    exact h3 k' a c
  · intro i' j a c
    show up2 s (b + 6 + i) k v (b + 6 + i') j = up2 C.2 i k v i' j
    by_cases e : i' = i ∧ j = k
    · rw [e.1, e.2, up2_eq, up2_eq]
    · rw [up2_ne (by omega), up2_ne e]
      exact h4 i' j a c
  · intro i' j a c
    show up2 s (b + 6 + i) k v (b + 3) (8 * i' + j) = up2 C.2 i k v i' (9 + j)
    rw [up2_ne (by omega), up2_ne (by omega)]
    exact h5 i' j a c
  · intro i' j a c d
    rw [up2_ne (by omega)]
    exact h6 i' j a c d
  · intro j a
    rw [up2_ne (by omega)]
    exact h7 j a
theorem Is.setG (h : Is s b C) {k : Nat} {v : Int32} (h5 : 5 ≤ k) (hk : k < 11) : Is (up2 s b k v) b (stG C (gIx k) v) := by
  have hz : gIx k ≠ 0 := gIx_nz k hk h5
  obtain ⟨h1, h2, h3, h4, h5', h6, h7⟩ := h
  refine ⟨h1, zc_G h2 hz, ?_, ?_, ?_, ?_, ?_⟩
  · intro k' a c
    show up2 s b k v b k' = up1 C.1 (gIx k) v (gIx k')
    by_cases e : k' = k
    · rw [e, up2_eq, up1_eq]
    · rw [up2_ne (by omega), up1_ne (fun hc => e (gIx_inj k' (by omega) k (by omega) (by omega) (by omega) hc))]
      exact h3 k' a c
  · intro i' j a c
    rw [up2_ne (by omega)]
    exact h4 i' j (by rw [← sz_G hz]; exact a) c
  · intro i' j a c
    rw [up2_ne (by omega)]
    exact h5' i' j (by rw [← sz_G hz]; exact a) c
  · intro i' j a c d
    rw [up2_ne (by omega)]
    exact h6 i' j (by rw [← sz_G hz]; exact a) c d
  · intro j a
    rw [up2_ne (by omega)]
    exact h7 j a
theorem Is.setL (h : Is s b C) {i j : Nat} {v : Int32} (hi : i < sz C) (hj : j < 8) : Is (up2 s (b + 3) (8 * i + j) v) b (stP C i (9 + j) v) := by
  obtain ⟨h1, h2, h3, h4, h5, h6, h7⟩ := h
  refine ⟨h1, h2, ?_, ?_, ?_, ?_, ?_⟩
  · intro k' a c
    rw [up2_ne (by omega)]
    exact h3 k' a c
  · intro i' j' a c
    show up2 s (b + 3) (8 * i + j) v (b + 6 + i') j' = up2 C.2 i (9 + j) v i' j'
    rw [up2_ne (by omega), up2_ne (by omega)]
    exact h4 i' j' a c
  · intro i' j' a c
    show up2 s (b + 3) (8 * i + j) v (b + 3) (8 * i' + j') = up2 C.2 i (9 + j) v i' (9 + j')
    by_cases e : i' = i ∧ j' = j
    · rw [e.1, e.2, up2_eq, up2_eq]
    · rw [up2_ne (by omega), up2_ne (by omega)]
      exact h5 i' j' a c
  · intro i' j' a c d
    have a' : sz C ≤ i' := a
    rw [up2_ne (by omega)]
    exact h6 i' j' a c d
  · intro j' a
    rw [up2_ne (by omega)]
    exact h7 j' a
theorem Ms.setP (h : Ms s C) {i k : Nat} {v : Int32} (hi : i < sz C) (hk : k < 17) : Ms (up2 s 288 (9 + 17 * i + k) v) (stP C i k v) := by
  obtain ⟨h1, h2, h3⟩ := h
  refine ⟨h1, ?_, ?_⟩
  · intro k' a c d
    show up2 s 288 (9 + 17 * i + k) v 288 k' = C.1 k'
    rw [up2_ne (by omega)]
    exact h2 k' a c d
  · intro i' j a c
    show up2 s 288 (9 + 17 * i + k) v 288 (9 + 17 * i' + j) = up2 C.2 i k v i' j
    by_cases e : i' = i ∧ j = k
    · rw [e.1, e.2, up2_eq, up2_eq]
    · rw [up2_ne (by omega), up2_ne e]
      exact h3 i' j a c
theorem Ms.setG (h : Ms s C) {k : Nat} {v : Int32} (h0 : 0 < k) (hk : k < 9) (h27 : k ≠ 2 ∧ k ≠ 7) : Ms (up2 s 288 k v) (stG C k v) := by
  obtain ⟨h1, h2, h3⟩ := h
  refine ⟨zc_G h1 (by omega), ?_, ?_⟩
  · intro k' a c d
    show up2 s 288 k v 288 k' = up1 C.1 k v k'
    by_cases e : k' = k
    · rw [e, up2_eq, up1_eq]
    · rw [up2_ne (by omega), up1_ne e]
      exact h2 k' a c d
  · intro i' j a c
    show up2 s 288 k v 288 (9 + 17 * i' + j) = C.2 i' j
    rw [up2_ne (by omega)]
    exact h3 i' j (by rw [← sz_G (C := C) (k := k) (v := v) (by omega)]; exact a) c
theorem Ms.rest (h : Ms s C) {k : Nat} {v : Int32} (hk : k = 2 ∨ k = 7 ∨ 145 ≤ k) : Ms (up2 s 288 k v) C := by
  obtain ⟨h1, h2, h3⟩ := h
  have := h1.2
  refine ⟨h1, ?_, ?_⟩
  · intro k' a c d
    rw [up2_ne (by omega)]
    exact h2 k' a c d
  · intro i' j a c
    rw [up2_ne (by omega)]
    exact h3 i' j a c
theorem Ms.up (h : Ms s C) {o k : Nat} {v : Int32} (ho : o ≠ 288) : Ms (up2 s o k v) C := by
  show Mw (up2 s o k v 288) C
  have e : up2 s o k v 288 = s 288 := funext fun j => up2_ne (by omega)
  rw [e]
  exact h
theorem Is.up (h : Is s b C) {o k : Nat} {v : Int32} (ho : o < b ∨ b + 14 ≤ o) : Is (up2 s o k v) b C := h.fr (P := fun q => q = o) (Fr.up rfl) (fun q hq => by rw [hq]; exact ho)
theorem Is.upL (h : Is s b C) {k : Nat} {v : Int32} (hk : ¬ (4 ≤ k ∧ k ≤ 10)) : Is (up2 s b k v) b C := by
  obtain ⟨h1, h2, h3, h4, h5, h6, h7⟩ := h
  refine ⟨h1, h2, ?_, ?_, ?_, ?_, ?_⟩
  · intro k' a c
    rw [up2_ne (by omega)]
    exact h3 k' a c
  · intro i' j' a c
    rw [up2_ne (by omega)]
    exact h4 i' j' a c
  · intro i' j' a c
    rw [up2_ne (by omega)]
    exact h5 i' j' a c
  · intro i' j' a c d
    rw [up2_ne (by omega)]
    exact h6 i' j' a c d
  · intro j' a
    rw [up2_ne (by omega)]
    exact h7 j' a
/-- its log may change -/
theorem Is.lg (h : Is s b C) {o k : Nat} {v : Int32} (ho : o = b + 4 ∨ o = b + 5) : Is (up2 s o k v) b C := by
  obtain ⟨h1, h2, h3, h4, h5, h6, h7⟩ := h
  refine ⟨h1, h2, ?_, ?_, ?_, ?_, ?_⟩
  · intro k' a c
    rw [up2_ne (by omega)]
    exact h3 k' a c
  · intro i' j' a c
    rw [up2_ne (by omega)]
    exact h4 i' j' a c
  · intro i' j' a c
    rw [up2_ne (by omega)]
    exact h5 i' j' a c
  · intro i' j' a c d
    rw [up2_ne (by omega)]
    exact h6 i' j' a c d
  · intro j' a
    rw [up2_ne (by omega)]
    exact h7 j' a
theorem setP_same {i k : Nat} : stP C i k (C.2 i k) = C := by
  refine Prod.ext rfl ?_
  funext a j
  show up2 C.2 i k (C.2 i k) a j = C.2 a j
  by_cases e : a = i ∧ j = k
  · rw [e.1, e.2, up2_eq]
  · rw [up2_ne e]
theorem setP_two {i k : Nat} {v w : Int32} : stP (stP C i k v) i k w = stP C i k w := by
  refine Prod.ext rfl ?_
  funext a j
  show up2 (up2 C.2 i k v) i k w a j = up2 C.2 i k w a j
  by_cases e : a = i ∧ j = k
  · rw [e.1, e.2, up2_eq, up2_eq]
  · rw [up2_ne e, up2_ne e, up2_ne e]
theorem setP_comm {i k i' k' : Nat} {v w : Int32} (hn : ¬ (i = i' ∧ k = k')) : stP (stP C i k v) i' k' w = stP (stP C i' k' w) i k v := by
  refine Prod.ext rfl ?_
  funext a j
  show up2 (up2 C.2 i k v) i' k' w a j = up2 (up2 C.2 i' k' w) i k v a j
  by_cases e : a = i ∧ j = k
  · have e2 : ¬ (a = i' ∧ j = k') := by omega
    rw [up2_ne e2, e.1, e.2, up2_eq, up2_eq]
  · rw [up2_ne (a := i) e]
    by_cases e2 : a = i' ∧ j = k'
    · rw [e2.1, e2.2, up2_eq, up2_eq]
    · rw [up2_ne e2, up2_ne e2, up2_ne e]
end
section
variable {g : Nat} {s : tS} {l : tL} {r : Nat → Nat} {b : Nat} {C : Co}
theorem c_P (h : Is s b C) {i k : Nat} {v : Int32} (hi : i < sz C) : putI (mm g s l r) (ob g (b + 6 + i)) 9 k v = some (mm g (up2 s (b + 6 + i) k v) l r) := f_pP h.1 (zc_8 h.2.1 hi)
theorem c_G (h : Is s b C) {k : Nat} {v : Int32} : putI (mm g s l r) (ob g b) 3 k v = some (mm g (up2 s b k v) l r) := f_putI h.1
theorem m_A {x : Int32} {i k : Nat} (e : x = Int32.ofNat (9 + 17 * i + k)) (hi : i < 8) (hk : k < 17) {v : Int32} : astI (mm g s l r) (ob g 288) x v = some (mm g (up2 s 288 (9 + 17 * i + k) v) l r) := by
  rw [e]
  exact w_ast (by omega)
theorem w_at0 {i : Nat} : p12_at (Int32.ofNat i) 0 (mm g s l r) = some (Int32.ofNat (9 + 17 * i + 0)) := by
  rw [p12_at]
  exact congrArg some (w_at (j := 0))
theorem w_at1 {i : Nat} : p12_at (Int32.ofNat i) 1 (mm g s l r) = some (Int32.ofNat (9 + 17 * i + 1)) := by
  rw [p12_at]
  exact congrArg some (w_at (j := 1))
theorem w_at3 {i : Nat} : p12_at (Int32.ofNat i) 3 (mm g s l r) = some (Int32.ofNat (9 + 17 * i + 3)) := by
  rw [p12_at]
  exact congrArg some (w_at (j := 3))
theorem w_at4 {i : Nat} : p12_at (Int32.ofNat i) 4 (mm g s l r) = some (Int32.ofNat (9 + 17 * i + 4)) := by
  rw [p12_at]
  exact congrArg some (w_at (j := 4))
theorem w_at6 {i : Nat} : p12_at (Int32.ofNat i) 6 (mm g s l r) = some (Int32.ofNat (9 + 17 * i + 6)) := by
  rw [p12_at]
  exact congrArg some (w_at (j := 6))
theorem w_at7 {i : Nat} : p12_at (Int32.ofNat i) 7 (mm g s l r) = some (Int32.ofNat (9 + 17 * i + 7)) := by
  rw [p12_at]
  exact congrArg some (w_at (j := 7))
theorem w_at8 {i : Nat} : p12_at (Int32.ofNat i) 8 (mm g s l r) = some (Int32.ofNat (9 + 17 * i + 8)) := by
  rw [p12_at]
  exact congrArg some (w_at (j := 8))
theorem w_atJ {i j : Nat} : p12_at (Int32.ofNat i) (Int32.ofNat j) (mm g s l r) = some (Int32.ofNat (9 + 17 * i + j)) := by
  rw [p12_at]
  exact congrArg some w_at
theorem m_astP {i k : Nat} {v : Int32} (hi : i < 8) (hk : k < 17) : astI (mm g s l r) (ob g 288) (Int32.ofNat (9 + 17 * i + k)) v = some (mm g (up2 s 288 (9 + 17 * i + k) v) l r) := w_ast (by omega)
end
/-! a loop with a way out -/
def lpx {α β : Type} (f : Nat → α → α ⊕ β) (K : α → β) : Nat → Nat → α → β
  | 0, _, a => K a
  | n + 1, i, a => match f i a with
    | .inl a' => lpx f K n (i + 1) a'
    | .inr b => b
theorem it_x' {α β : Type} (L : Nat → α → Int32 → β) (N : Nat) (f : Nat → α → α ⊕ β) (K : α → β) (hs : ∀ (n i : Nat) (a : α), i < N → L (n + 1) a (Int32.ofNat i) = (match f i a with | .inl a' => L n a' (Int32.ofNat (i + 1)) | .inr b => b)) (he : ∀ (n : Nat) (a : α), L (n + 1) a (Int32.ofNat N) = K a) : ∀ (k fuel i : Nat) (a : α), i + k = N → k < fuel → L fuel a (Int32.ofNat i) = lpx f K k i a := by
  intro k
  induction k with
  | zero =>
    intro fuel i a h1 h2
    obtain ⟨n, rfl⟩ : ∃ n, fuel = n + 1 := ⟨fuel - 1, by omega⟩
    have : i = N := by omega
    subst this
    exact he n a
  | succ k ih =>
    intro fuel i a h1 h2
    obtain ⟨n, rfl⟩ : ∃ n, fuel = n + 1 := ⟨fuel - 1, by omega⟩
    rw [hs n i a (by omega), lpx]
    cases f i a with
    | inl a' => exact ih n (i + 1) a' (by omega) (by omega)
    | inr b => rfl
theorem it_x {α β : Type} (L : Nat → α → Int32 → β) (N : Nat) (f : Nat → α → α ⊕ β) (K : α → β) (hs : ∀ (n i : Nat) (a : α), i < N → L (n + 1) a (Int32.ofNat i) = (match f i a with | .inl a' => L n a' (Int32.ofNat (i + 1)) | .inr b => b)) (he : ∀ (n : Nat) (a : α), L (n + 1) a (Int32.ofNat N) = K a) (fuel : Nat) (a : α) (hf : N < fuel) : L fuel a 0 = lpx f K N 0 a := it_x' L N f K hs he N fuel 0 a (by omega) hf
theorem lpx_congr {α β : Type} {f f' : Nat → α → α ⊕ β} {K : α → β} : ∀ (k i : Nat) (a : α), (∀ j a, i ≤ j → j < i + k → f j a = f' j a) → lpx f K k i a = lpx f' K k i a := by
  intro k
  induction k with
  | zero => intro i a _; rfl
  | succ k ih =>
    intro i a h
    rw [lpx, lpx, h i a (by omega) (by omega)]
    cases f' i a with
    | inl a' => exact ih (i + 1) a' (fun j a h1 h2 => h j a (by omega) (by omega))
    | inr b => rfl
/-- a loop that holds an invariant up to its end: of a run of steps, each of which comes to a state of the next number -/
theorem it_inv {α β : Type} (L : Nat → α → Int32 → β) (P : Nat → α → Prop) (Q : β → Prop) (N : Nat) (hs : ∀ (n i : Nat) (a : α), i < N → P i a → (∃ a', P (i + 1) a' ∧ L (n + 1) a (Int32.ofNat i) = L n a' (Int32.ofNat (i + 1))) ∨ Q (L (n + 1) a (Int32.ofNat i))) (he : ∀ (n : Nat) (a : α), P N a → Q (L (n + 1) a (Int32.ofNat N))) : ∀ (k fuel i : Nat) (a : α), i + k = N → k < fuel → P i a → Q (L fuel a (Int32.ofNat i)) := by
  intro k
  induction k with
  | zero =>
    intro fuel i a h1 h2 hP
    obtain ⟨n, rfl⟩ : ∃ n, fuel = n + 1 := ⟨fuel - 1, by omega⟩
    have : i = N := by omega
    subst this
    exact he n a hP
  | succ k ih =>
    intro fuel i a h1 h2 hP
    obtain ⟨n, rfl⟩ : ∃ n, fuel = n + 1 := ⟨fuel - 1, by omega⟩
    rcases hs n i a (by omega) hP with ⟨a', h3, h4⟩ | h3
    · rw [h4]
      exact ih n (i + 1) a' (by omega) (by omega) h3
    · exact h3
/-! division and what is left -/
def rem32 (x y : Int32) : Int32 := x - x / y * y
theorem remI_ne {x y : Int32} (h : y ≠ 0) : remI x y = some (rem32 x y) := if_neg h
theorem divI_ne {x y : Int32} (h : y ≠ 0) : divI x y = some (x / y) := if_neg h
theorem i_nz {y : Int32} (h : 0 < y.toInt) : y ≠ 0 := by
  intro e
  rw [e] at h
  exact absurd h (by decide)
theorem i_tdiv {x y : Int32} (hx : 0 ≤ x.toInt) (hy : 0 < y.toInt) : (x / y).toInt = x.toInt / y.toInt := by
  rw [Int32.toInt_div, Int.tdiv_eq_ediv_of_nonneg hx]
  have h1 : x.toInt / y.toInt ≤ x.toInt := Int.ediv_le_self _ hx
  have h2 : 0 ≤ x.toInt / y.toInt := Int.ediv_nonneg hx (by omega)
  have h3 := Int32.toInt_lt x
  exact i_bm (by omega) (by omega)
theorem rem32_toInt {x y : Int32} (hx : 0 ≤ x.toInt) (hy : 0 < y.toInt) : (rem32 x y).toInt = x.toInt % y.toInt := by
  have hd := i_tdiv hx hy
  have h1 : x.toInt / y.toInt * y.toInt ≤ x.toInt := Int.ediv_mul_le _ (by omega)
  have h2 : 0 ≤ x.toInt / y.toInt * y.toInt := Int.mul_nonneg (Int.ediv_nonneg hx (by omega)) (by omega)
  have h3 := Int32.toInt_lt x
  have hm : (x / y * y).toInt = x.toInt / y.toInt * y.toInt := by
    rw [i_tmul] <;> rw [hd] <;> omega
  have h4 : x.toInt % y.toInt = x.toInt - x.toInt / y.toInt * y.toInt := by
    rw [Int.emod_def, Int.mul_comm]
  rw [rem32, i_tsub] <;> rw [hm] <;> omega
