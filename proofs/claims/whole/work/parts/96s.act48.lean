section
variable {g : Nat} {s s0 : tS} {l : tL} {r : Nat → Nat} {n p b q e k N : Nat} {u : Nat → Nat} {M : mMem}
/-! what a thing is -/
theorem fw_t' {w : Nat → Bool} : ∀ k i j, i ≤ j → j < i + k → w j = true → (∀ j', j' < i + k → w j' = true → j' = j) → fw w k i = 3 + j := by
  intro k
  induction k with
  | zero => intro i j h1 h2; omega
  | succ k ih =>
    intro i j h1 h2 hj hu
    show (if w i = false then fw w k (i + 1) else 3 + i) = _
    by_cases c : i = j
    · rw [c, if_neg (by rw [hj]; decide)]
    · have : w i = false := by
        cases hw : w i with
        | false => rfl
        | true => exact absurd (hu i (by omega) hw) c
      rw [if_pos this]
      exact ih (i + 1) j (by omega) (by omega) hj (fun j' h' hw => hu j' (by omega) hw)
theorem wd_in {i : Nat} (hi : i < 27) (hq : q ≤ n) (h : wdB u q (eL u n q) i = true) : q < n ∧ isL (u q) = true ∧ enT u n q = eL u n q := by
  have h' := h
  unfold wdB at h'
  rw [Bool.and_eq_true] at h'
  have h1 := of_decide_eq_true h'.1
  have h2 := (gBt_of i hi).2.1
  have h3 : eL u n q ≤ n := rU_le hq
  have h4 : isL (u q) = true := rU_in (f := fun j => isL (u j)) (n := n) (p := q) (Nat.le_refl _) (show q < eL u n q by omega)
  refine ⟨by omega, h4, ?_⟩
  unfold enT
  rw [h4, if_pos rfl]
theorem th_w {i : Nat} (hi : i < 27) (hq : q ≤ n) : th u n q = 3 + i ↔ wdB u q (eL u n q) i = true := by
  constructor
  · intro h
    unfold th at h
    split at h
    · split at h
      · rcases fw_b (w := wdB u q (eL u n q)) 27 0 with h0 | ⟨-, -, h2⟩
        · omega
        · rw [h, show 3 + i - 3 = i by omega] at h2
          exact h2
      · split at h
        · split at h <;> omega
        · split at h
          · rename_i hs
            have := of_decide_eq_true hs
            omega
          · omega
    · omega
  · intro h
    obtain ⟨a1, a2, a3⟩ := wd_in hi hq h
    unfold th
    rw [if_pos a1, a2, if_pos rfl]
    exact fw_t' 27 0 i (Nat.zero_le _) (by omega) h (fun j' hj' hw => wdB_one (by omega) hi hw h)
theorem th_2 : th u n q = 2 ↔ nuB u n q = true := by
  unfold th nuB
  by_cases c : q < n
  · rw [if_pos c, decide_eq_true c, Bool.true_and]
    cases a1 : isL (u q) with
    | true =>
      rw [if_pos rfl, isLD a1, Bool.false_and]
      rcases fw_b (w := wdB u q (eL u n q)) 27 0 with h | h
      · exact ⟨fun h' => by omega, fun h' => by cases h'⟩
      · exact ⟨fun h' => by omega, fun h' => by cases h'⟩
    | false =>
      rw [if_neg (by decide)]
      cases a2 : isD (u q) with
      | true =>
        rw [if_pos rfl, Bool.true_and]
        by_cases c3 : eD u n q ≤ q + 3
        · rw [if_pos c3, decide_eq_true c3]
          exact ⟨fun _ => rfl, fun _ => rfl⟩
        · rw [if_neg c3, decide_eq_false c3]
          exact ⟨fun h => by omega, fun h => by cases h⟩
      | false =>
        rw [if_neg (by decide), Bool.false_and]
        cases a3 : sgB (u q) with
        | true =>
          have := of_decide_eq_true a3
          rw [if_pos rfl]
          exact ⟨fun h => by omega, fun h => by cases h⟩
        | false =>
          rw [if_neg (by decide)]
          exact ⟨fun h => by omega, fun h => by cases h⟩
  · rw [if_neg c, decide_eq_false c, Bool.false_and]
    exact ⟨fun h => by omega, fun h => by cases h⟩
theorem nu_in (hq : q ≤ n) (h : nuB u n q = true) : q < n ∧ enT u n q = eD u n q := by
  unfold nuB at h
  rw [Bool.and_eq_true, Bool.and_eq_true] at h
  have a := of_decide_eq_true h.1
  refine ⟨a, ?_⟩
  have nl : isL (u q) = false := by
    cases c : isL (u q) with
    | false => rfl
    | true =>
      have := isLD c
      rw [h.2.1] at this
      cases this
  unfold enT
  rw [nl, if_neg (by decide), h.2.1, if_pos rfl]
theorem sg_n {x : Nat} (h : sgB x = true) : isL x = false ∧ isD x = false := by
  have := of_decide_eq_true h
  exact ⟨decide_eq_false (by omega), decide_eq_false (by omega)⟩
theorem th_c {c : Nat} (hc : sgB c = true) : th u n q = c ↔ q < n ∧ u q = c := by
  have hb := of_decide_eq_true hc
  constructor
  · intro h
    unfold th at h
    split at h
    · rename_i hq
      refine ⟨hq, ?_⟩
      split at h
      · rcases fw_b (w := wdB u q (eL u n q)) 27 0 with h0 | h0 <;> omega
      · split at h
        · split at h <;> omega
        · split at h
          · exact h
          · omega
    · omega
  · intro ⟨h1, h2⟩
    obtain ⟨a1, a2⟩ := sg_n hc
    unfold th
    rw [if_pos h1, h2, a1, if_neg (by decide), a2, if_neg (by decide), hc, if_pos rfl]
theorem sg_en (h : sgB (u q) = true) : enT u n q = q + 1 := by
  obtain ⟨a1, a2⟩ := sg_n h
  unfold enT
  rw [a1, if_neg (by decide), a2, if_neg (by decide)]
theorem th_1 (hq : q ≤ n) : th u n q = 1 ↔ q = n := by
  constructor
  · intro h
    unfold th at h
    split at h
    · split at h
      · rcases fw_b (w := wdB u q (eL u n q)) 27 0 with h0 | h0 <;> omega
      · split at h
        · split at h <;> omega
        · split at h
          · rename_i hs
            have := of_decide_eq_true hs
            omega
          · omega
    · omega
  · intro h
    unfold th
    rw [if_neg (by omega)]
theorem nu_n : nu u n n = 0 := by
  unfold nu nuB
  rw [decide_eq_false (Nat.lt_irrefl n), Bool.false_and]
  rfl
theorem nu_v (h : nuB u n q = true) : nu u n q = nuV u n q := by
  unfold nu
  rw [if_pos h]
end
