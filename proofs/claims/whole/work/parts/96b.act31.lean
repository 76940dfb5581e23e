section
variable {g : Nat} {s : tS} {l : tL} {r : Nat → Nat} {C : Co} {G : Lg} {L : Lw} {n : Nat}
/-! ASK: bits of sayings -/
theorem one_bit {y : BitVec 32} : (y &&& 1#32 = 1#32) ↔ y.getLsbD 0 = true := by
  constructor
  · intro h
    have := congrArg (fun z => z.getLsbD 0) h
    simp only [BitVec.getLsbD_and] at this
    have e : (1#32).getLsbD 0 = true := by decide
    rw [e, Bool.and_true] at this
    exact this
  · intro h
    apply BitVec.eq_of_getLsbD_eq
    intro i hi
    rw [BitVec.getLsbD_and]
    by_cases c : i = 0
    · subst c
      rw [h, Bool.true_and]
    · have e : (1#32).getLsbD i = false := by
        have : ∀ i, i < 32 → i ≠ 0 → (1#32).getLsbD i = false := by decide
        exact this i hi c
      rw [e, Bool.and_false]
theorem hasb_g {x : Int32} {k : Nat} (h : (x >>> (Int32.ofNat k &&& 31)).toBitVec = x.toBitVec.sshiftRight k) (hk : k < 31) : hasb x k = x.toBitVec.getLsbD k := by
  have e : (((x >>> (Int32.ofNat k &&& 31)) &&& 1) = 1) ↔ x.toBitVec.getLsbD k = true := by
    rw [← Int32.toBitVec_inj, Int32.toBitVec_and, h]
    have o : (1 : Int32).toBitVec = 1#32 := rfl
    rw [o, one_bit, BitVec.getLsbD_sshiftRight]
    have a : ¬ 32 ≤ 0 := by omega
    have c : k + 0 < 32 := by omega
    simp [a, c]
    intro h'
    omega
  unfold hasb
  rcases Bool.eq_false_or_eq_true (x.toBitVec.getLsbD k) with c | c
  · rw [c]
    exact decide_eq_true (e.mpr c)
  · rw [c]
    refine decide_eq_false (fun hh => ?_)
    rw [e.mp hh] at c
    cases c
theorem sh_16 {x : Int32} {k : Nat} (hk : k < 16) : (x >>> (Int32.ofNat k &&& 31)).toBitVec = x.toBitVec.sshiftRight k := by
  have : k = 0 ∨ k = 1 ∨ k = 2 ∨ k = 3 ∨ k = 4 ∨ k = 5 ∨ k = 6 ∨ k = 7 ∨ k = 8 ∨ k = 9 ∨ k = 10 ∨ k = 11 ∨ k = 12 ∨ k = 13 ∨ k = 14 ∨ k = 15 := by omega
  rcases this with rfl | rfl | rfl | rfl | rfl | rfl | rfl | rfl | rfl | rfl | rfl | rfl | rfl | rfl | rfl | rfl <;> rfl
theorem hasb_16 {x : Int32} {k : Nat} (hk : k < 16) : hasb x k = x.toBitVec.getLsbD k := hasb_g (sh_16 hk) (by omega)
theorem bt_16 : ∀ i, i < 16 → ∀ k, k < 16 → (bt i).toBitVec.getLsbD k = decide (i = k) := by decide
theorem fit_bit {q k : Nat} {u : Nat → Nat} (hk : k < 16) : ∀ m i x, i + m ≤ 16 → (itF (fitS L C q u n) m i x).toBitVec.getLsbD k = (x.toBitVec.getLsbD k || (decide (i ≤ k ∧ k < i + m) && (csB C q k && ftB L C q u n k))) := by
  intro m
  induction m with
  | zero =>
    intro i x _
    have : decide (i ≤ k ∧ k < i + 0) = false := decide_eq_false (by omega)
    rw [this, Bool.false_and, Bool.or_false]
    rfl
  | succ m ih =>
    intro i x h
    show (itF (fitS L C q u n) m (i + 1) (fitS L C q u n i x)).toBitVec.getLsbD k = _
    rw [ih (i + 1) _ (by omega)]
    unfold fitS
    by_cases e : i = k
    · subst e
      have d1 : decide (i + 1 ≤ i ∧ i < i + 1 + m) = false := decide_eq_false (by omega)
      have d2 : decide (i ≤ i ∧ i < i + (m + 1)) = true := decide_eq_true (by omega)
      rw [d1, d2, Bool.false_and, Bool.or_false, Bool.true_and]
      cases c : (csB C q i && ftB L C q u n i) with
      | false => rw [if_neg (by decide), Bool.or_false]
      | true =>
        rw [if_pos rfl, Int32.toBitVec_or, BitVec.getLsbD_or, bt_16 i hk i hk, decide_eq_true rfl]
    · have d : decide (i + 1 ≤ k ∧ k < i + 1 + m) = decide (i ≤ k ∧ k < i + (m + 1)) := decide_eq_decide.mpr (by omega)
      rw [d]
      congr 1
      cases c : (csB C q i && ftB L C q u n i) with
      | false => rw [if_neg (by decide)]
      | true =>
        rw [if_pos rfl, Int32.toBitVec_or, BitVec.getLsbD_or, bt_16 i (by omega) k hk, decide_eq_false e, Bool.or_false]
theorem fit_has {q k : Nat} {u : Nat → Nat} (h8 : sz C ≤ 8) (hk : k < 16) (h : hasb (fitV L C q u n) k = true) : k < 2 * sz C ∧ csB C q k = true := by
  rw [hasb_16 hk, fitV, fit_bit hk (2 * sz C) 0 0 (by omega)] at h
  have z : (0 : Int32).toBitVec.getLsbD k = false := by
    have : ∀ k, k < 16 → (0 : Int32).toBitVec.getLsbD k = false := by decide
    exact this k hk
  rw [z, Bool.false_or, Bool.and_eq_true, Bool.and_eq_true] at h
  have := of_decide_eq_true h.1
  exact ⟨by omega, h.2.1⟩
end
