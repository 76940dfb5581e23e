section
variable {g : Nat} {s : tS} {l : tL} {r : Nat → Nat} {n p b q e : Nat} {u : Nat → Nat}
theorem sLen_of {i : Nat} (hi : i < 27) : sLen i = some (Int32.ofNat (gsLen.getD i 0)) := if_pos (by unfold gsN; omega)
theorem sAt_of {i k : Nat} (hi : i < 27) (hk : k < gsLen.getD i 0) : sAt i (Int32.ofNat k) = some (Int32.ofNat (gBt i k)) := by
  have hl := (gBt_of i hi).1
  unfold sAt
  rw [if_pos ⟨by unfold gsN; omega, i0_le (by omega), by rw [i_cl (by omega)]; exact hk⟩, i_cl (by omega), ((gBt_of i hi).2.2 k hk).1]
theorem i_subN {a b : Nat} (h : b ≤ a) : Int32.ofNat a - Int32.ofNat b = Int32.ofNat (a - b) := by
  have e : Int32.ofNat a = Int32.ofNat (a - b) + Int32.ofNat b := by rw [i_add]; congr 1; omega
  rw [e, Int32.add_sub_cancel]
theorem m_isWord {i : Nat} (h : RT s n u) (hqe : q ≤ e) (he : e ≤ n) (hi : i < 27) : p12_isWord (ob g 287) i (mm g (sc s e q) l r) = some (ib (wdB u q e i)) := by
  have hn := h.2.1
  obtain ⟨g1, -, g3⟩ := gBt_of i hi
  have en : (Int32.ofNat (e - q) = Int32.ofNat (gsLen.getD i 0)) = (e - q = gsLen.getD i 0) := propext (i_eq (by omega) (by omega))
  by_cases c : e - q = gsLen.getD i 0
  · have d : decide (e = q + gsLen.getD i 0) = true := decide_eq_true (by omega)
    have key : p12_isWord_L24 (mm g (sc s e q) l r) gF (ob g 287) i (ib true) 0 = some (ib (alE (fun k => decide (u (q + k) = gBt i k)) (gsLen.getD i 0))) := by
      refine it_inv (L := fun m (a : Int32) x => p12_isWord_L24 (mm g (sc s e q) l r) m (ob g 287) i a x) (P := fun k a => a = ib (alE (fun k => decide (u (q + k) = gBt i k)) k)) (Q := fun B => B = some (ib (alE (fun k => decide (u (q + k) = gBt i k)) (gsLen.getD i 0)))) (N := gsLen.getD i 0) (fun m k a hk hP => ?_) (fun m a hP => ?_) (gsLen.getD i 0) gF 0 (ib true) (by omega) (gF_gt (by omega)) rfl
      · subst hP
        cases ha : alE (fun k => decide (u (q + k) = gBt i k)) k with
        | false =>
          right
          simp only [p12_isWord_L24, ib_f, if_true, p12_isWord_J67, bZ_0, obs, alE_f ha (Nat.le_of_lt hk)]
        | true =>
          left
          refine ⟨_, rfl, ?_⟩
          obtain ⟨u1, u2⟩ := h.2.2 (q + k) (by omega)
          have e93 : sc s e q 293 (q + k) = i2b (Int32.ofNat (u (q + k))) := by rw [sc_o (by omega)]; exact u1
          have eq := i2b_eq u2 (show gBt i k < 128 by have := (g3 k hk).2.2; omega)
          rw [alE_s, ha, Bool.true_and]
          by_cases c1 : u (q + k) = gBt i k
          · have ct : (u (q + k) = gBt i k) = True := eq_true c1
            simp only [p12_isWord_L24, ib_t, one_z, if_false, sLen_of hi, obs, ltNN (show k < 2147483648 by omega) (show gsLen.getD i 0 < 2147483648 by omega), hk, if_true, w_R8, w_getI, sc_12, i_add, w_B (show q + k < 400 by omega), e93, sAt_of hi hk, eq, ct, p12_isWord_J60, i_succ, decide_true]
          · have cf : (u (q + k) = gBt i k) = False := eq_false c1
            simp only [p12_isWord_L24, ib_t, one_z, if_false, sLen_of hi, obs, ltNN (show k < 2147483648 by omega) (show gsLen.getD i 0 < 2147483648 by omega), hk, if_true, w_R8, w_getI, sc_12, i_add, w_B (show q + k < 400 by omega), e93, sAt_of hi hk, eq, cf, p12_isWord_J60, i_succ, decide_false, ib_f]
      · subst hP
        cases ha : alE (fun k => decide (u (q + k) = gBt i k)) (gsLen.getD i 0) with
        | false => simp only [p12_isWord_L24, ib_f, if_true, p12_isWord_J67, bZ_0, obs]
        | true => simp only [p12_isWord_L24, ib_t, one_z, if_false, sLen_of hi, obs, ltk_n, p12_isWord_J67, bZ_1]
    unfold wdB
    rw [d, Bool.true_and]
    simp only [p12_isWord, w_gd, w_getI, sc_10, sc_12, obs, sLen_of hi, i_subN hqe, en, c, if_true, p12_isWord_J21]
    exact key
  · have d : decide (e = q + gsLen.getD i 0) = false := decide_eq_false (by omega)
    have key : p12_isWord_L24 (mm g (sc s e q) l r) gF (ob g 287) i 0 0 = some 0 := by
      rw [show gF = (gF - 1) + 1 from rfl]
      simp only [p12_isWord_L24, if_true, p12_isWord_J67, bZ_0, obs]
    unfold wdB
    rw [d, Bool.false_and]
    simp only [p12_isWord, w_gd, w_getI, sc_10, sc_12, obs, sLen_of hi, i_subN hqe, en, c, if_false, p12_isWord_J21, ib_f]
    exact key
theorem m_passes {i : Nat} (h : RT s n u) (hp : p ≤ n) (hi : i < 27) : p12_passes (ob g 287) i (mm g (sc s p b) l r) = some (ib (wdB u (sk u n p) (eL u n (sk u n p)) i), mm g (sc s (if wdB u (sk u n p) (eL u n (sk u n p)) i = true then eL u n (sk u n p) else sk u n p) (sk u n p)) l r) := by
  have hq : sk u n p ≤ n := rU_le hp
  have hw := m_isWord (g := g) (l := l) (r := r) (q := sk u n p) (e := eL u n (sk u n p)) h rU_ge (rU_le hq) hi
  cases c : wdB u (sk u n p) (eL u n (sk u n p)) i with
  | false =>
    rw [c] at hw
    simp only [p12_passes, w_gd, m_letters h hp, obs, hw, ib_f, if_true, w_getI, sc_12, w_putI, sc_p, Bool.false_eq_true, if_false]
  | true =>
    rw [c] at hw
    simp only [p12_passes, w_gd, m_letters h hp, obs, hw, ib_t, one_z, if_false, if_true]
/-! numbers -/
def vl (u : Nat → Nat) (q : Nat) : Nat → Nat
  | 0 => 0
  | k + 1 => 10 * vl u q k + (u (q + k) - 48)
def nuB (u : Nat → Nat) (n q : Nat) : Bool := decide (q < n) && (isD (u q) && decide (eD u n q ≤ q + 3))
def nuV (u : Nat → Nat) (n q : Nat) : Nat := vl u q (eD u n q - q)
theorem vl_b : ∀ k, (∀ j, j < k → isD (u (q + j)) = true) → vl u q k < 10 ^ k := by
  intro k
  induction k with
  | zero =>
    intro _
    show 0 < 1
    decide
  | succ k ih =>
    intro h
    have h1 := ih (fun j hj => h j (by omega))
    have h2 := of_decide_eq_true (h k (by omega))
    show 10 * vl u q k + (u (q + k) - 48) < _
    rw [Nat.pow_succ]
    omega
theorem nuV_b (h : nuB u n q = true) : nuV u n q < 1000 := by
  unfold nuB at h
  rw [Bool.and_eq_true, Bool.and_eq_true] at h
  have h3 := of_decide_eq_true h.2.2
  have hb := vl_b (u := u) (q := q) (eD u n q - q) (fun j hj => rU_in (f := fun j => isD (u j)) (n := n) (p := q) (by omega) (show q + j < eD u n q by omega))
  have : eD u n q - q ≤ 3 := by omega
  have h4 : 10 ^ (eD u n q - q) ≤ 10 ^ 3 := Nat.pow_le_pow_right (by omega) this
  unfold nuV
  omega
theorem m_number {lo : Nat} {hi : Int32} {h' : Nat} (h : RT s n u) (hp : p ≤ n) (hlo : lo < 2147483648) (hh : ∀ v : Nat, v < 1000 → (hi < Int32.ofNat v ↔ ¬ (v < h'))) : p12_number (ob g 287) (Int32.ofNat lo) hi (mm g (sc s p b) l r) = some (if (nuB u n (sk u n p) && decide (lo ≤ nuV u n (sk u n p) ∧ nuV u n (sk u n p) < h')) = true then Int32.ofNat (nuV u n (sk u n p)) else -1, mm g (sc s (eD u n (sk u n p)) (sk u n p)) l r) := by
  have hn := h.2.1
  have hq : sk u n p ≤ n := rU_le hp
  rw [p12_number, w_gd, m_blanks h hp]
  obtain ⟨q, hq'⟩ : ∃ q, q = sk u n p := ⟨_, rfl⟩
  rw [← hq'] at hq ⊢
  have three : ∀ x, q ≤ x → x ≤ n → ((Int32.ofNat x - Int32.ofNat q < 3) = (x < q + 3)) ∧ ((3 < Int32.ofNat x - Int32.ofNat q) = (q + 3 < x)) := by
    intro x h1 h2
    rw [i_subN h1]
    exact ⟨propext ((i_lt (b := 3) (by omega) (by decide)).trans (by omega)), propext ((i_lt (a := 3) (by decide) (by omega)).trans (by omega))⟩
  have e0 : Int32.ofNat (vl u q (min (q - q) 3)) = 0 := by rw [Nat.sub_self]; rfl
  refine (congrArg (fun z => p12_number_L6 p12_number_J65 gF (ob g 287) (Int32.ofNat lo) hi z (mm g (sc s q q) l r)) e0.symm).trans ?_
  refine (rU_lp (f := fun j => isD (u j)) (n := n) (fun m x => p12_number_L6 p12_number_J65 m (ob g 287) (Int32.ofNat lo) hi (Int32.ofNat (vl u q (min (x - q) 3))) (mm g (sc s x q) l r)) (fun x => p12_number_J65 (ob g 287) (Int32.ofNat lo) hi (Int32.ofNat (vl u q (min (x - q) 3))) (mm g (sc s x q) l r)) q (fun m x hqx hx hf => ?_) (fun m x hqx hx hf => ?_) gF q (Nat.le_refl _) hq (Nat.lt_of_lt_of_le (gF_gt (n := n) (by omega)) (Nat.le_add_right _ _))).trans ?_
  · have d : decide (x < n) = true := decide_eq_true hx
    have hf' : isD (u x) = true := hf
    have hd := of_decide_eq_true hf'
    obtain ⟨u1, u2⟩ := h.2.2 x hx
    have e93 : sc s x q 293 x = Int32.ofNat (u x) := by rw [sc_o (by omega), u1, i2b_s (by omega)]
    by_cases c : x < q + 3
    · have ct : (x < q + 3) = True := eq_true c
      have e1 : min (x - q) 3 = x - q := by omega
      have e2 : min (x + 1 - q) 3 = (x - q) + 1 := by omega
      have e3 : (10 : Int32) * Int32.ofNat (vl u q (x - q)) + Int32.ofNat (u x) - 48 = Int32.ofNat (vl u q ((x - q) + 1)) := by
        show (Int32.ofNat 10) * Int32.ofNat (vl u q (x - q)) + Int32.ofNat (u x) - Int32.ofNat 48 = Int32.ofNat (10 * vl u q (x - q) + (u (q + (x - q)) - 48))
        rw [i_mul, i_add, i_subN (by omega), show q + (x - q) = x by omega]
        congr 1
        omega
      simp only [p12_number_L6, m_isD h (show x ≤ n by omega), d, hf', Bool.and_true, ib_t, obs, one_z, if_false, w_getI, sc_10, sc_12, (three x hqx (by omega)).1, ct, if_true, w_R8, w_B (show x < 400 by omega), e93, p12_number_J51, w_putI, i_succ, sc_p, e1, e2, e3]
    · have cf : (x < q + 3) = False := eq_false c
      have e1 : min (x - q) 3 = 3 := by omega
      have e2 : min (x + 1 - q) 3 = 3 := by omega
      simp only [p12_number_L6, m_isD h (show x ≤ n by omega), d, hf', Bool.and_true, ib_t, obs, one_z, if_false, w_getI, sc_10, sc_12, (three x hqx (by omega)).1, cf, p12_number_J51, w_putI, i_succ, sc_p, e1, e2]
  · have e : (decide (x < n) && isD (u x)) = false := by
      by_cases c : x < n
      · have := hf c
        rw [show isD (u x) = false from this, Bool.and_false]
      · rw [decide_eq_false c, Bool.false_and]
    simp only [p12_number_L6, m_isD h hx, e, ib_f, obs, if_true]
  · show p12_number_J65 (ob g 287) (Int32.ofNat lo) hi (Int32.ofNat (vl u q (min (eD u n q - q) 3))) (mm g (sc s (eD u n q) q) l r) = _
    have hqe : q ≤ eD u n q := rU_ge
    have hen : eD u n q ≤ n := rU_le hq
    have ee : (Int32.ofNat (eD u n q) = Int32.ofNat q) = (eD u n q = q) := propext (i_eq (by omega) (by omega))
    by_cases c0 : eD u n q = q
    · have c0' : (eD u n q = q) = True := eq_true c0
      have nb : nuB u n q = false := by
        unfold nuB
        by_cases c : q < n
        · have : isD (u q) = false := by
            have := rU_end (f := fun j => isD (u j)) (n := n) (p := q) (by show eD u n q < n; omega)
            have h2 : isD (u (eD u n q)) = false := this
            rw [c0] at h2
            exact h2
          rw [this, Bool.false_and, Bool.and_false]
        · rw [decide_eq_false c, Bool.false_and]
      simp only [p12_number_J65, w_getI, sc_10, sc_12, obs, ee, c0', if_true, p12_number_J51, p12_number_J104, p12_number_J99, p12_number_J65, p12_number, nb, Bool.false_and, Bool.false_eq_true, if_false]
    · have c0' : (eD u n q = q) = False := eq_false c0
      have hd : isD (u q) = true := rU_in (f := fun j => isD (u j)) (n := n) (p := q) (Nat.le_refl _) (show q < eD u n q by omega)
      have hqn : decide (q < n) = true := decide_eq_true (by omega)
      by_cases c3 : q + 3 < eD u n q
      · have c3' : (q + 3 < eD u n q) = True := eq_true c3
        have nb : nuB u n q = false := by
          unfold nuB
          rw [decide_eq_false (show ¬ eD u n q ≤ q + 3 by omega), Bool.and_false, Bool.and_false]
        simp only [p12_number_J65, w_getI, sc_10, sc_12, obs, ee, c0', if_false, (three _ hqe hen).2, c3', if_true, p12_number_J51, p12_number_J104, p12_number_J99, p12_number_J65, p12_number, nb, Bool.false_and, Bool.false_eq_true]
      · have c3' : (q + 3 < eD u n q) = False := eq_false c3
        have nb : nuB u n q = true := by
          unfold nuB
          rw [decide_eq_true (show eD u n q ≤ q + 3 by omega), hd, hqn]
          rfl
        have e1 : vl u q (min (eD u n q - q) 3) = nuV u n q := by
          unfold nuV
          rw [show min (eD u n q - q) 3 = eD u n q - q by omega]
        have vb := nuV_b nb
        have l1 : (Int32.ofNat (nuV u n q) < Int32.ofNat lo) = (nuV u n q < lo) := ltNN (by omega) hlo
        have l2 : (hi < Int32.ofNat (nuV u n q)) = ¬ (nuV u n q < h') := propext (hh _ vb)
        by_cases c1 : nuV u n q < lo
        · have c1' : (nuV u n q < lo) = True := eq_true c1
          have dd : decide (lo ≤ nuV u n q ∧ nuV u n q < h') = false := decide_eq_false (by omega)
          simp only [p12_number_J65, w_getI, sc_10, sc_12, obs, ee, c0', if_false, (three _ hqe hen).2, c3', if_true, p12_number_J51, p12_number_J104, p12_number_J99, p12_number_J65, p12_number, nb, e1, l1, c1', dd, Bool.and_false, Bool.false_eq_true]
        · have c1' : (nuV u n q < lo) = False := eq_false c1
          by_cases c2 : nuV u n q < h'
          · have c2' : (¬ nuV u n q < h') = False := eq_false (fun hh => hh c2)
            have dd : decide (lo ≤ nuV u n q ∧ nuV u n q < h') = true := decide_eq_true (by omega)
            rw [c2'] at l2
            simp only [p12_number_J65, w_getI, sc_10, sc_12, obs, ee, c0', if_false, (three _ hqe hen).2, c3', if_true, p12_number_J51, p12_number_J104, p12_number_J99, p12_number_J65, p12_number, nb, e1, l1, c1', l2, dd, Bool.and_self]
          · have c2' : (¬ nuV u n q < h') = True := eq_true c2
            have dd : decide (lo ≤ nuV u n q ∧ nuV u n q < h') = false := decide_eq_false (by omega)
            rw [c2'] at l2
            simp only [p12_number_J65, w_getI, sc_10, sc_12, obs, ee, c0', if_false, (three _ hqe hen).2, c3', if_true, p12_number_J51, p12_number_J104, p12_number_J99, p12_number_J65, p12_number, nb, e1, l1, c1', l2, dd, Bool.and_false, Bool.false_eq_true]
end
