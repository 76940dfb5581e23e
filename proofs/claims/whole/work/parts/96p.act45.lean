section
variable {g : Nat} {s : tS} {l : tL} {r : Nat → Nat} {n p b q e : Nat} {u : Nat → Nat} {M : mMem}
/-! the class: bytes, words, numbers -/
def CT (s : tS) (n : Nat) (u : Nat → Nat) : Prop := n ≤ 400 ∧ ∀ j, j < n → s 1 j = Int32.ofNat (u j) ∧ u j < 256
theorem c_isL {x : Nat} (hx : x < 256) : p9_isLetter (Int32.ofNat x) M = some (ib (isL x)) := by
  have l1 : (Int32.ofNat x < 97) = (x < 97) := propext (i_lt (b := 97) (by omega) (by decide))
  have l2 : ((122 : Int32) < Int32.ofNat x) = (122 < x) := propext (i_lt (a := 122) (by decide) (by omega))
  unfold isL
  by_cases c1 : x < 97
  · have d : decide (97 ≤ x ∧ x ≤ 122) = false := decide_eq_false (by omega)
    simp only [p9_isLetter, l1, c1, if_true, p9_isLetter_J17, p9_isLetter_J16, p9_isLetter, bZ_0, obs, d, ib_f]
  · by_cases c2 : 122 < x
    · have d : decide (97 ≤ x ∧ x ≤ 122) = false := decide_eq_false (by omega)
      simp only [p9_isLetter, l1, c1, if_false, l2, c2, if_true, p9_isLetter_J17, p9_isLetter_J16, p9_isLetter, bZ_0, obs, d, ib_f]
    · have d : decide (97 ≤ x ∧ x ≤ 122) = true := decide_eq_true (by omega)
      simp only [p9_isLetter, l1, c1, if_false, l2, c2, p9_isLetter_J17, p9_isLetter_J16, p9_isLetter, bZ_1, obs, d, ib_t]
theorem c_isD {x : Nat} (hx : x < 256) : p9_isDigit (Int32.ofNat x) M = some (ib (isD x)) := by
  have l1 : (Int32.ofNat x < 48) = (x < 48) := propext (i_lt (b := 48) (by omega) (by decide))
  have l2 : ((57 : Int32) < Int32.ofNat x) = (57 < x) := propext (i_lt (a := 57) (by decide) (by omega))
  unfold isD
  by_cases c1 : x < 48
  · have d : decide (48 ≤ x ∧ x ≤ 57) = false := decide_eq_false (by omega)
    simp only [p9_isDigit, l1, c1, if_true, p9_isDigit_J17, p9_isDigit_J16, p9_isDigit, bZ_0, obs, d, ib_f]
  · by_cases c2 : 57 < x
    · have d : decide (48 ≤ x ∧ x ≤ 57) = false := decide_eq_false (by omega)
      simp only [p9_isDigit, l1, c1, if_false, l2, c2, if_true, p9_isDigit_J17, p9_isDigit_J16, p9_isDigit, bZ_0, obs, d, ib_f]
    · have d : decide (48 ≤ x ∧ x ≤ 57) = true := decide_eq_true (by omega)
      simp only [p9_isDigit, l1, c1, if_false, l2, c2, p9_isDigit_J17, p9_isDigit_J16, p9_isDigit, bZ_1, obs, d, ib_t]
def sgB (x : Nat) : Bool := decide (x = 59 ∨ x = 40 ∨ x = 41 ∨ x = 60 ∨ x = 62 ∨ x = 43)
theorem c_isSg {x : Nat} (hx : x < 256) : p9_isSign (Int32.ofNat x) M = some (ib (sgB x)) := by
  have w : ∀ c, c < 256 → (Int32.ofNat x = Int32.ofNat c) = (x = c) := fun c hc => propext (i_eq (by omega) (by omega))
  have w1 : (Int32.ofNat x = 59) = (x = 59) := w 59 (by decide)
  have w2 : (Int32.ofNat x = 40) = (x = 40) := w 40 (by decide)
  have w3 : (Int32.ofNat x = 41) = (x = 41) := w 41 (by decide)
  have w4 : (Int32.ofNat x = 60) = (x = 60) := w 60 (by decide)
  have w5 : (Int32.ofNat x = 62) = (x = 62) := w 62 (by decide)
  have w6 : (Int32.ofNat x = 43) = (x = 43) := w 43 (by decide)
  by_cases c1 : x = 59
  · subst c1; rfl
  · by_cases c2 : x = 40
    · subst c2; rfl
    · by_cases c3 : x = 41
      · subst c3; rfl
      · by_cases c4 : x = 60
        · subst c4; rfl
        · by_cases c5 : x = 62
          · subst c5; rfl
          · by_cases c6 : x = 43
            · subst c6; rfl
            · have d : sgB x = false := decide_eq_false (by omega)
              simp only [p9_isSign, w1, w2, w3, w4, w5, w6, c1, c2, c3, c4, c5, c6, if_false, p9_isSign_J41, bZ_0, obs, d, ib_f]
theorem c_reads {i : Nat} (h : CT s n u) (hqe : q ≤ e) (he : e ≤ n) (hi : i < 27) : p9_reads (ob g 1) (Int32.ofNat q) (Int32.ofNat e) i (mm g s l r) = some (ib (wdB u q e i)) := by
  have hn := h.1
  obtain ⟨g1, -, g3⟩ := gBt_of i hi
  have en : (Int32.ofNat (e - q) = Int32.ofNat (gsLen.getD i 0)) = (e - q = gsLen.getD i 0) := propext (i_eq (by omega) (by omega))
  have c0 : (Int32.ofNat q < 0) = False := eq_false (i_nlt0 (by omega))
  have c4 : ((400 : Int32) < Int32.ofNat e) = False := eq_false (fun hh => by have := (i_lt (a := 400) (by decide) (by omega)).mp hh; omega)
  by_cases c : e - q = gsLen.getD i 0
  · have d : decide (e = q + gsLen.getD i 0) = true := decide_eq_true (by omega)
    have key : p9_reads_L25 (mm g s l r) gF (ob g 1) (Int32.ofNat q) i 0 = some (ib (alE (fun k => decide (u (q + k) = gBt i k)) (gsLen.getD i 0))) := by
      refine it_inv (L := fun m (_ : Unit) x => p9_reads_L25 (mm g s l r) m (ob g 1) (Int32.ofNat q) i x) (P := fun k _ => alE (fun k => decide (u (q + k) = gBt i k)) k = true) (Q := fun B => B = some (ib (alE (fun k => decide (u (q + k) = gBt i k)) (gsLen.getD i 0)))) (N := gsLen.getD i 0) (fun m k a hk hP => ?_) (fun m a hP => ?_) (gsLen.getD i 0) gF 0 () (by omega) (gF_gt (by omega)) rfl
      · obtain ⟨u1, u2⟩ := h.2 (q + k) (by omega)
        have eq : (Int32.ofNat (u (q + k)) = Int32.ofNat (gBt i k)) = (u (q + k) = gBt i k) := propext (i_eq (by omega) (by have := (g3 k hk).2.2; omega))
        by_cases c1 : u (q + k) = gBt i k
        · left
          refine ⟨(), by rw [alE_s, hP, Bool.true_and]; exact decide_eq_true c1, ?_⟩
          have ct : (u (q + k) = gBt i k) = True := eq_true c1
          simp only [p9_reads_L25, sLen_of hi, obs, ltNN (show k < 2147483648 by omega) (show gsLen.getD i 0 < 2147483648 by omega), hk, if_true, i_add, t1_ald (show q + k < 400 by omega), u1, sAt_of hi hk, eq, ct, i_succ]
        · right
          have cf : (u (q + k) = gBt i k) = False := eq_false c1
          have ef : alE (fun k => decide (u (q + k) = gBt i k)) (gsLen.getD i 0) = false := by
            refine alE_f (i := k + 1) ?_ (by omega)
            rw [alE_s, hP, Bool.true_and]
            exact decide_eq_false c1
          simp only [p9_reads_L25, sLen_of hi, obs, ltNN (show k < 2147483648 by omega) (show gsLen.getD i 0 < 2147483648 by omega), hk, if_true, i_add, t1_ald (show q + k < 400 by omega), u1, sAt_of hi hk, eq, cf, if_false, ef, ib_f]
      · simp only [p9_reads_L25, sLen_of hi, obs, ltk_n, if_false, hP, ib_t]
    unfold wdB
    rw [d, Bool.true_and]
    simp only [p9_reads, sLen_of hi, obs, i_subN hqe, en, c, if_true, c0, if_false, t1_len, c4]
    exact key
  · have d : decide (e = q + gsLen.getD i 0) = false := decide_eq_false (by omega)
    unfold wdB
    rw [d, Bool.false_and]
    simp only [p9_reads, sLen_of hi, obs, i_subN hqe, en, c, if_false, p9_reads_J20, ib_f]
def fw (w : Nat → Bool) : Nat → Nat → Nat
  | 0, _ => 0
  | k + 1, i => if w i = false then fw w k (i + 1) else 3 + i
def fwO (w : Nat → Bool) : Nat → Nat → Int32
  | 0, _ => 0
  | k + 1, i => if w i = false then fwO w k (i + 1) else Int32.ofNat (3 + i)
theorem fwO_of {w : Nat → Bool} : ∀ k i, fwO w k i = Int32.ofNat (fw w k i) := by
  intro k
  induction k with
  | zero => intro i; rfl
  | succ k ih =>
    intro i
    show (if w i = false then fwO w k (i + 1) else Int32.ofNat (3 + i)) = Int32.ofNat (if w i = false then fw w k (i + 1) else 3 + i)
    rw [ih]
    split <;> rfl
theorem fw_t {w : Nat → Bool} : ∀ k i j, i ≤ j → j < i + k → w j = true → (∀ j', w j' = true → j' = j) → fw w k i = 3 + j := by
  intro k
  induction k with
  | zero => intro i j h1 h2; omega
  | succ k ih =>
    intro i j h1 h2 hj hu
    show (if w i = false then fw w k (i + 1) else 3 + i) = _
    by_cases c : i = j
    · rw [c, if_neg (by rw [hj]; decide)]
    · have : w i = false := by
        cases hw : w i with
        | false => rfl
        | true => exact absurd (hu i hw) c
      rw [if_pos this]
      exact ih (i + 1) j (by omega) (by omega) hj hu
theorem fw_b {w : Nat → Bool} : ∀ k i, fw w k i = 0 ∨ (i + 3 ≤ fw w k i ∧ fw w k i < i + k + 3 ∧ w (fw w k i - 3) = true) := by
  intro k
  induction k with
  | zero => intro i; exact Or.inl rfl
  | succ k ih =>
    intro i
    have e : fw w (k + 1) i = if w i = false then fw w k (i + 1) else 3 + i := rfl
    rw [e]
    cases hw : w i with
    | false =>
      rw [if_pos rfl]
      rcases ih (i + 1) with h | ⟨h1, h2, h3⟩
      · exact Or.inl h
      · exact Or.inr ⟨by omega, by omega, h3⟩
    | true =>
      rw [if_neg (by decide)]
      refine Or.inr ⟨by omega, by omega, ?_⟩
      rw [show 3 + i - 3 = i by omega]
      exact hw
theorem if_so {α : Type} {c : Prop} [Decidable c] {x y : α} : (if c then some x else some y) = some (if c then x else y) := by split <;> rfl
theorem c_wordOf (h : CT s n u) (hqe : q ≤ e) (he : e ≤ n) : p9_wordOf (ob g 1) (Int32.ofNat q) (Int32.ofNat e) (mm g s l r) = some (Int32.ofNat (fw (wdB u q e) 27 0)) := by
  have r0 := c_reads (g := g) (l := l) (r := r) (i := 0) h hqe he (by decide)
  have r1 := c_reads (g := g) (l := l) (r := r) (i := 1) h hqe he (by decide)
  have r2 := c_reads (g := g) (l := l) (r := r) (i := 2) h hqe he (by decide)
  have r3 := c_reads (g := g) (l := l) (r := r) (i := 3) h hqe he (by decide)
  have r4 := c_reads (g := g) (l := l) (r := r) (i := 4) h hqe he (by decide)
  have r5 := c_reads (g := g) (l := l) (r := r) (i := 5) h hqe he (by decide)
  have r6 := c_reads (g := g) (l := l) (r := r) (i := 6) h hqe he (by decide)
  have r7 := c_reads (g := g) (l := l) (r := r) (i := 7) h hqe he (by decide)
  have r8 := c_reads (g := g) (l := l) (r := r) (i := 8) h hqe he (by decide)
  have r9 := c_reads (g := g) (l := l) (r := r) (i := 9) h hqe he (by decide)
  have r10 := c_reads (g := g) (l := l) (r := r) (i := 10) h hqe he (by decide)
  have r11 := c_reads (g := g) (l := l) (r := r) (i := 11) h hqe he (by decide)
  have r12 := c_reads (g := g) (l := l) (r := r) (i := 12) h hqe he (by decide)
  have r13 := c_reads (g := g) (l := l) (r := r) (i := 13) h hqe he (by decide)
  have r14 := c_reads (g := g) (l := l) (r := r) (i := 14) h hqe he (by decide)
  have r15 := c_reads (g := g) (l := l) (r := r) (i := 15) h hqe he (by decide)
  have r16 := c_reads (g := g) (l := l) (r := r) (i := 16) h hqe he (by decide)
  have r17 := c_reads (g := g) (l := l) (r := r) (i := 17) h hqe he (by decide)
  have r18 := c_reads (g := g) (l := l) (r := r) (i := 18) h hqe he (by decide)
  have r19 := c_reads (g := g) (l := l) (r := r) (i := 19) h hqe he (by decide)
  have r20 := c_reads (g := g) (l := l) (r := r) (i := 20) h hqe he (by decide)
  have r21 := c_reads (g := g) (l := l) (r := r) (i := 21) h hqe he (by decide)
  have r22 := c_reads (g := g) (l := l) (r := r) (i := 22) h hqe he (by decide)
  have r23 := c_reads (g := g) (l := l) (r := r) (i := 23) h hqe he (by decide)
  have r24 := c_reads (g := g) (l := l) (r := r) (i := 24) h hqe he (by decide)
  have r25 := c_reads (g := g) (l := l) (r := r) (i := 25) h hqe he (by decide)
  have r26 := c_reads (g := g) (l := l) (r := r) (i := 26) h hqe he (by decide)
  rw [← fwO_of]
  simp only [p9_wordOf, r0, r1, r2, r3, r4, r5, r6, r7, r8, r9, r10, r11, r12, r13, r14, r15, r16, r17, r18, r19, r20, r21, r22, r23, r24, r25, r26, obs, ib_z, if_so]
  rfl
theorem c_numberOf (h : CT s n u) (hqe : q ≤ e) (he : e ≤ n) (hd : ∀ j, q ≤ j → j < e → isD (u j) = true) : p9_numberOf (ob g 1) (Int32.ofNat q) (Int32.ofNat e) (mm g s l r) = some (Int32.ofNat (vl u q (e - q))) := by
  have hn := h.1
  have e0 : (0 : Int32) = Int32.ofNat (vl u q (q - q)) := by rw [Nat.sub_self]; rfl
  rw [p9_numberOf]
  refine (congrArg (fun z => p9_numberOf_L5 (mm g s l r) gF (ob g 1) (Int32.ofNat e) z (Int32.ofNat q)) e0).trans ?_
  refine (rU_lp (f := fun _ => true) (n := e) (fun m x => p9_numberOf_L5 (mm g s l r) m (ob g 1) (Int32.ofNat e) (Int32.ofNat (vl u q (x - q))) (Int32.ofNat x)) (fun x => some (Int32.ofNat (vl u q (x - q)))) q (fun m x hqx hx hf => ?_) (fun m x hqx hx hf => ?_) gF q (Nat.le_refl _) hqe (Nat.lt_of_lt_of_le (gF_gt (n := e) (by omega)) (Nat.le_add_right _ _))).trans ?_
  · obtain ⟨u1, u2⟩ := h.2 x (by omega)
    have hx2 := of_decide_eq_true (hd x hqx hx)
    have l4 : (Int32.ofNat x < 400) = True := eq_true ((i_lt (b := 400) (by omega) (by decide)).mpr (by omega))
    have e2 : x + 1 - q = (x - q) + 1 := by omega
    have e3 : (10 : Int32) * Int32.ofNat (vl u q (x - q)) + Int32.ofNat (u x) - 48 = Int32.ofNat (vl u q ((x - q) + 1)) := by
      show (Int32.ofNat 10) * Int32.ofNat (vl u q (x - q)) + Int32.ofNat (u x) - Int32.ofNat 48 = Int32.ofNat (10 * vl u q (x - q) + (u (q + (x - q)) - 48))
      rw [i_mul, i_add, i_subN (by omega), show q + (x - q) = x by omega]
      congr 1
      omega
    simp only [p9_numberOf_L5, ltNN (show x < 2147483648 by omega) (show e < 2147483648 by omega), hx, if_true, t1_len, obs, l4, t1_ald (show x < 400 by omega), u1, i_succ, e2, e3]
  · have hxe : ¬ x < e := fun c => by have := hf c; cases this
    simp only [p9_numberOf_L5, ltNN (show x < 2147483648 by omega) (show e < 2147483648 by omega), hxe, if_false, p9_numberOf_J37]
  · have : rU (fun _ => true) e q = e := by
      have h1 := rU_le (f := fun _ => true) (n := e) (p := q) hqe
      by_cases c : rU (fun _ => true) e q < e
      · have := rU_end (f := fun _ => true) c
        cases this
      · omega
    show some (Int32.ofNat (vl u q (rU (fun _ => true) e q - q))) = _
    rw [this]
/-! the things that a text is parted into -/
def th (u : Nat → Nat) (n q : Nat) : Nat := if q < n then (if isL (u q) = true then fw (wdB u q (eL u n q)) 27 0 else if isD (u q) = true then (if eD u n q ≤ q + 3 then 2 else 0) else if sgB (u q) = true then u q else 0) else 1
def nu (u : Nat → Nat) (n q : Nat) : Nat := if nuB u n q = true then nuV u n q else 0
def enT (u : Nat → Nat) (n q : Nat) : Nat := if isL (u q) = true then eL u n q else if isD (u q) = true then eD u n q else q + 1
def enX (u : Nat → Nat) (n q : Nat) : Nat := if isL (u q) = true then eL u n q else if isD (u q) = true then eD u n q else q
def tk (u : Nat → Nat) (n : Nat) : Nat → Nat
  | 0 => sk u n 0
  | k + 1 => if tk u n k < n then sk u n (enT u n (tk u n k)) else tk u n k
theorem isLD {x : Nat} (h : isL x = true) : isD x = false := by
  have := of_decide_eq_true h
  exact decide_eq_false (by omega)
theorem th_b (hu : ∀ j, j < n → u j < 256) : th u n q < 256 := by
  unfold th
  split
  · have hq := hu q (by assumption)
    split
    · rcases fw_b (w := wdB u q (eL u n q)) 27 0 with h | h <;> omega
    · split
      · split <;> omega
      · split <;> omega
  · omega
theorem enT_gt (hq : q < n) : q < enT u n q ∧ enT u n q ≤ n := by
  unfold enT
  split
  · rename_i h
    refine ⟨?_, rU_le (by omega)⟩
    unfold eL
    rw [rU_t hq h]
    have := rU_ge (f := fun j => isL (u j)) (n := n) (p := q + 1)
    omega
  · split
    · rename_i h
      refine ⟨?_, rU_le (by omega)⟩
      unfold eD
      rw [rU_t hq h]
      have := rU_ge (f := fun j => isD (u j)) (n := n) (p := q + 1)
      omega
    · omega
theorem enX_max (hq : q < n) (hn : n ≤ 400) : maxI (Int32.ofNat (q + 1)) (Int32.ofNat (enX u n q)) = Int32.ofNat (enT u n q) := by
  have h := enT_gt (u := u) hq
  have e : enT u n q = max (q + 1) (enX u n q) := by
    revert h
    unfold enT enX
    split
    · intro h; omega
    · split
      · intro h; omega
      · intro h; omega
  rw [e]
  have hx : enX u n q ≤ 400 := by omega
  unfold maxI
  by_cases c : q + 1 < enX u n q
  · have := (i_lt (a := q + 1) (b := enX u n q) (by omega) (by omega)).mpr c
    rw [show max (q + 1) (enX u n q) = enX u n q by omega]
    first | rw [if_pos this] | rw [if_neg (Int32.not_le.mpr this)]
  · have : ¬ Int32.ofNat (q + 1) < Int32.ofNat (enX u n q) := fun hh => c ((i_lt (by omega) (by omega)).mp hh)
    rw [show max (q + 1) (enX u n q) = q + 1 by omega]
    first | rw [if_neg this] | rw [if_pos (Int32.not_lt.mp this)]
theorem tk_le : ∀ k, tk u n k ≤ n := by
  intro k
  induction k with
  | zero => exact rU_le (Nat.zero_le _)
  | succ k ih =>
    show (if tk u n k < n then sk u n (enT u n (tk u n k)) else tk u n k) ≤ n
    split
    · rename_i h
      exact rU_le (enT_gt h).2
    · exact ih
theorem sk_tk : ∀ k, sk u n (tk u n k) = tk u n k := by
  intro k
  cases k with
  | zero => exact rU_id
  | succ k =>
    have e : tk u n (k + 1) = if tk u n k < n then sk u n (enT u n (tk u n k)) else tk u n k := rfl
    by_cases c : tk u n k < n
    · rw [e, if_pos c]
      exact rU_id
    · rw [e, if_neg c]
      exact rU_n (by omega)
theorem tk_s {k : Nat} (h : tk u n k < n) : tk u n (k + 1) = sk u n (enT u n (tk u n k)) := if_pos h
end
