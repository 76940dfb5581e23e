section
variable {g : Nat} {s : tS} {l : tL} {r : Nat → Nat} {n p b q e : Nat} {u : Nat → Nat}
/-! the TEXT: u its bytes, n how many of them; runs of bytes of a kind -/
def rUf (f : Nat → Bool) : Nat → Nat → Nat
  | 0, p => p
  | k + 1, p => if f p = true then rUf f k (p + 1) else p
def rU (f : Nat → Bool) (n p : Nat) : Nat := rUf f (n - p) p
theorem rU_t {f : Nat → Bool} (h : p < n) (hf : f p = true) : rU f n p = rU f n (p + 1) := by
  unfold rU
  have e : n - p = (n - (p + 1)) + 1 := by omega
  rw [e]
  exact if_pos hf
theorem rU_f {f : Nat → Bool} (h : p < n) (hf : f p = false) : rU f n p = p := by
  unfold rU
  have e : n - p = (n - (p + 1)) + 1 := by omega
  rw [e]
  exact if_neg (by rw [hf]; decide)
theorem rU_n {f : Nat → Bool} (h : n ≤ p) : rU f n p = p := by
  unfold rU
  have e : n - p = 0 := by omega
  rw [e]
  rfl
theorem rU_all {f : Nat → Bool} : ∀ k p, n - p = k → p ≤ rU f n p ∧ (p ≤ n → rU f n p ≤ n) ∧ (∀ j, p ≤ j → j < rU f n p → f j = true ∧ j < n) ∧ (rU f n p < n → f (rU f n p) = false) := by
  intro k
  induction k with
  | zero =>
    intro p hk
    rw [rU_n (by omega)]
    exact ⟨Nat.le_refl _, fun h => h, fun j h1 h2 => by omega, fun h => by omega⟩
  | succ k ih =>
    intro p hk
    cases hf : f p with
    | false =>
      rw [rU_f (by omega) hf]
      exact ⟨Nat.le_refl _, fun h => h, fun j h1 h2 => by omega, fun _ => hf⟩
    | true =>
      obtain ⟨i1, i2, i3, i4⟩ := ih (p + 1) (by omega)
      rw [rU_t (by omega) hf]
      refine ⟨by omega, fun _ => i2 (by omega), fun j h1 h2 => ?_, i4⟩
      by_cases c : j = p
      · rw [c]
        exact ⟨hf, by omega⟩
      · exact i3 j (by omega) h2
theorem rU_ge {f : Nat → Bool} : p ≤ rU f n p := (rU_all _ p rfl).1
theorem rU_le {f : Nat → Bool} (h : p ≤ n) : rU f n p ≤ n := (rU_all _ p rfl).2.1 h
theorem rU_in {f : Nat → Bool} {j : Nat} (h1 : p ≤ j) (h2 : j < rU f n p) : f j = true := ((rU_all _ p rfl).2.2.1 j h1 h2).1
theorem rU_end {f : Nat → Bool} (h : rU f n p < n) : f (rU f n p) = false := (rU_all _ p rfl).2.2.2 h
theorem rU_id {f : Nat → Bool} : rU f n (rU f n p) = rU f n p := by
  by_cases c : rU f n p < n
  · exact rU_f c (rU_end c)
  · exact rU_n (by omega)
theorem rU_lp {β : Type} {f : Nat → Bool} (L : Nat → Nat → β) (K : Nat → β) (q : Nat) (hs : ∀ m p, q ≤ p → p < n → f p = true → L (m + 1) p = L m (p + 1)) (he : ∀ m p, q ≤ p → p ≤ n → (p < n → f p = false) → L (m + 1) p = K p) : ∀ fuel p, q ≤ p → p ≤ n → n < fuel + p → L fuel p = K (rU f n p) := by
  intro fuel
  induction fuel with
  | zero => intro p _ h1 h2; omega
  | succ m ih =>
    intro p hq h1 h2
    by_cases c : p < n
    · cases hf : f p with
      | false => rw [he m p hq h1 (fun _ => hf), rU_f c hf]
      | true => rw [hs m p hq c hf, rU_t c hf, ih (p + 1) (by omega) (by omega) (by omega)]
    · rw [he m p hq h1 (fun h => absurd h c), rU_n (by omega)]
def isB (x : Nat) : Bool := decide (x = 32)
def isL (x : Nat) : Bool := decide (97 ≤ x ∧ x ≤ 122)
def isD (x : Nat) : Bool := decide (48 ≤ x ∧ x ≤ 57)
def sk (u : Nat → Nat) (n p : Nat) : Nat := rU (fun j => isB (u j)) n p
def eL (u : Nat → Nat) (n p : Nat) : Nat := rU (fun j => isL (u j)) n p
def eD (u : Nat → Nat) (n p : Nat) : Nat := rU (fun j => isD (u j)) n p
def gBt (i k : Nat) : Nat := ((gsByt.getD i []).getD k 0).toInt.toNat
theorem gBt_of : ∀ i, i < 27 → gsLen.getD i 0 < 100 ∧ 0 < gsLen.getD i 0 ∧ ∀ k, k < gsLen.getD i 0 → (gsByt.getD i []).getD k 0 = Int32.ofNat (gBt i k) ∧ 97 ≤ gBt i k ∧ gBt i k ≤ 122 := by decide +kernel
def wdB (u : Nat → Nat) (q e i : Nat) : Bool := decide (e = q + gsLen.getD i 0) && alE (fun k => decide (u (q + k) = gBt i k)) (gsLen.getD i 0)
theorem wdB_one {i j : Nat} (hi : i < 27) (hj : j < 27) (h1 : wdB u q e i = true) (h2 : wdB u q e j = true) : i = j := by
  unfold wdB at h1 h2
  rw [Bool.and_eq_true] at h1 h2
  have a1 := of_decide_eq_true h1.1
  have a2 := of_decide_eq_true h2.1
  have b1 := (alE_iff _).mp h1.2
  have b2 := (alE_iff _).mp h2.2
  have hl : gsLen.getD i 0 = gsLen.getD j 0 := by omega
  refine nr_7 i (by omega) j (by omega) hl (fun k hk => ?_)
  rw [((gBt_of i hi).2.2 k hk).1, ((gBt_of j hj).2.2 k (by omega)).1, ← of_decide_eq_true (b1 k hk), ← of_decide_eq_true (b2 k (by omega))]
/-! in the reference: the point and where what stands at it begins -/
def sc (s : tS) (p b : Nat) : tS := up2 (up2 s 287 10 (Int32.ofNat p)) 287 12 (Int32.ofNat b)
theorem sc_10 : sc s p b 287 10 = Int32.ofNat p := by
  unfold sc
  rw [up2_ne (by omega), up2_eq]
theorem sc_12 : sc s p b 287 12 = Int32.ofNat b := up2_eq
theorem sc_o {o k : Nat} (h : ¬ (o = 287 ∧ (k = 10 ∨ k = 12))) : sc s p b o k = s o k := by
  unfold sc
  rw [up2_ne (by omega), up2_ne (by omega)]
theorem sc_ext {s1 : tS} (h10 : s1 287 10 = Int32.ofNat p) (h12 : s1 287 12 = Int32.ofNat b) (ho : ∀ o k, ¬ (o = 287 ∧ (k = 10 ∨ k = 12)) → s1 o k = s o k) : s1 = sc s p b := by
  funext o k
  by_cases c : o = 287 ∧ (k = 10 ∨ k = 12)
  · obtain ⟨c1, c2⟩ := c
    subst c1
    rcases c2 with c2 | c2
    · subst c2
      rw [h10, sc_10]
    · subst c2
      rw [h12, sc_12]
  · rw [ho o k c, sc_o c]
theorem sc_p {p' : Nat} : up2 (sc s p b) 287 10 (Int32.ofNat p') = sc s p' b := sc_ext up2_eq (by rw [up2_ne (by omega), sc_12]) (fun o k h => by rw [up2_ne (by omega), sc_o h])
theorem sc_b {b' : Nat} : up2 (sc s p b) 287 12 (Int32.ofNat b') = sc s p b' := sc_ext (by rw [up2_ne (by omega), sc_10]) up2_eq (fun o k h => by rw [up2_ne (by omega), sc_o h])
theorem sc_id (h1 : s 287 10 = Int32.ofNat p) (h2 : s 287 12 = Int32.ofNat b) : sc s p b = s := (sc_ext h1 h2 (fun _ _ _ => rfl)).symm
theorem sc_sc {p' b' : Nat} : sc (sc s p b) p' b' = sc s p' b' := sc_ext sc_10 sc_12 (fun o k h => by rw [sc_o h, sc_o h])
theorem sc_up {o k : Nat} {v : Int32} (h : ¬ (o = 287 ∧ (k = 10 ∨ k = 12))) : up2 (sc s p b) o k v = sc (up2 s o k v) p b := by
  refine sc_ext (by rw [up2_ne (by omega), sc_10]) (by rw [up2_ne (by omega), sc_12]) (fun o' k' h' => ?_)
  by_cases c : o' = o ∧ k' = k
  · rw [c.1, c.2, up2_eq, up2_eq]
  · rw [up2_ne c, up2_ne c, sc_o h']
def RT (s : tS) (n : Nat) (u : Nat → Nat) : Prop := s 287 11 = Int32.ofNat n ∧ n ≤ 400 ∧ ∀ j, j < n → s 293 j = i2b (Int32.ofNat (u j)) ∧ u j < 256
theorem i2b_eq {x c : Nat} (hx : x < 256) (hc : c < 128) : (i2b (Int32.ofNat x) = Int32.ofNat c) = (x = c) := by
  have v := i2b_v x hx
  apply propext
  constructor
  · intro h
    rw [h, i_toInt (by omega)] at v
    split at v <;> omega
  · intro h
    rw [h, i2b_s hc]
theorem m_isAt {lo hi : Nat} (h : RT s n u) (hp : p ≤ n) (hlo : lo ≤ 128) (hhi : hi < 128) : p12_isAt (ob g 287) (Int32.ofNat lo) (Int32.ofNat hi) (mm g (sc s p b) l r) = some (ib (decide (p < n) && decide (lo ≤ u p ∧ u p ≤ hi))) := by
  have hn := h.2.1
  have e11 : sc s p b 287 11 = Int32.ofNat n := by rw [sc_o (by omega)]; exact h.1
  by_cases c : p < n
  · have lt : (Int32.ofNat p < Int32.ofNat n) = True := eq_true ((i_lt (by omega) (by omega)).mpr c)
    have d : decide (p < n) = true := decide_eq_true c
    obtain ⟨u1, u2⟩ := h.2.2 p c
    have e93 : sc s p b 293 p = i2b (Int32.ofNat (u p)) := by rw [sc_o (by omega)]; exact u1
    have v := i2b_v (u p) u2
    by_cases c1 : u p < 128 ∧ lo ≤ u p
    · have l1 : (i2b (Int32.ofNat (u p)) < Int32.ofNat lo) = False := by
        rw [i_ltI, v, i_toInt (by omega)]
        apply eq_false
        split <;> omega
      by_cases c2 : hi < u p
      · have l2 : (Int32.ofNat hi < i2b (Int32.ofNat (u p))) = True := by
          rw [i_ltI, v, i_toInt (by omega)]
          apply eq_true
          split <;> omega
        have dd : decide (lo ≤ u p ∧ u p ≤ hi) = false := decide_eq_false (by omega)
        simp only [p12_isAt, w_gd, w_getI, sc_10, e11, obs, lt, if_true, w_R8, w_B (show p < 400 by omega), e93, l1, if_false, l2, p12_isAt_J42, p12_isAt_J41, p12_isAt, bZ_0, d, dd, Bool.and_false, ib_f]
      · have l2 : (Int32.ofNat hi < i2b (Int32.ofNat (u p))) = False := by
          rw [i_ltI, v, i_toInt (by omega)]
          apply eq_false
          split <;> omega
        have dd : decide (lo ≤ u p ∧ u p ≤ hi) = true := decide_eq_true (by omega)
        simp only [p12_isAt, w_gd, w_getI, sc_10, e11, obs, lt, if_true, w_R8, w_B (show p < 400 by omega), e93, l1, if_false, l2, p12_isAt_J42, p12_isAt_J41, p12_isAt, bZ_1, d, dd, Bool.and_true, ib_t]
    · have l1 : (i2b (Int32.ofNat (u p)) < Int32.ofNat lo) = True := by
        rw [i_ltI, v, i_toInt (by omega)]
        apply eq_true
        split <;> omega
      have dd : decide (lo ≤ u p ∧ u p ≤ hi) = false := decide_eq_false (by omega)
      simp only [p12_isAt, w_gd, w_getI, sc_10, e11, obs, lt, if_true, w_R8, w_B (show p < 400 by omega), e93, l1, p12_isAt_J42, p12_isAt_J41, p12_isAt, bZ_0, d, dd, Bool.and_false, ib_f]
  · have lt : (Int32.ofNat p < Int32.ofNat n) = False := eq_false (fun h => c ((i_lt (by omega) (by omega)).mp h))
    have d : decide (p < n) = false := decide_eq_false c
    simp only [p12_isAt, w_gd, w_getI, sc_10, e11, obs, lt, if_false, p12_isAt_J42, p12_isAt_J41, p12_isAt, bZ_0, d, Bool.false_and, ib_f]
theorem m_isC {c : Nat} (h : RT s n u) (hp : p ≤ n) (hc : c < 128) : p12_isAt (ob g 287) (Int32.ofNat c) (Int32.ofNat c) (mm g (sc s p b) l r) = some (ib (decide (p < n) && decide (u p = c))) := by
  rw [m_isAt h hp (by omega) hc]
  congr 3
  exact decide_eq_decide.mpr (by omega)
theorem m_isB (h : RT s n u) (hp : p ≤ n) : p12_isAt (ob g 287) 32 32 (mm g (sc s p b) l r) = some (ib (decide (p < n) && isB (u p))) := m_isC (c := 32) h hp (by decide)
theorem m_isL (h : RT s n u) (hp : p ≤ n) : p12_isAt (ob g 287) 97 122 (mm g (sc s p b) l r) = some (ib (decide (p < n) && isL (u p))) := m_isAt (lo := 97) (hi := 122) h hp (by decide) (by decide)
theorem m_isD (h : RT s n u) (hp : p ≤ n) : p12_isAt (ob g 287) 48 57 (mm g (sc s p b) l r) = some (ib (decide (p < n) && isD (u p))) := m_isAt (lo := 48) (hi := 57) h hp (by decide) (by decide)
theorem m_blanks (h : RT s n u) (hp : p ≤ n) : p12_blanks (ob g 287) (mm g (sc s p b) l r) = some (mm g (sc s (sk u n p) (sk u n p)) l r) := by
  have hn := h.2.1
  rw [p12_blanks, w_gd]
  refine rU_lp (f := fun j => isB (u j)) (n := n) (fun m x => p12_blanks_L0 m (ob g 287) (mm g (sc s x b) l r)) (fun x => some (mm g (sc s x x) l r)) 0 (fun m x _ hx hf => ?_) (fun m x _ hx hf => ?_) gF p (Nat.zero_le _) hp (Nat.lt_of_lt_of_le (gF_gt (n := n) (by omega)) (Nat.le_add_right _ _))
  · have d : decide (x < n) = true := decide_eq_true hx
    simp only [p12_blanks_L0, m_isB h (show x ≤ n by omega), d, hf, Bool.and_true, ib_t, obs, one_z, if_false, w_getI, sc_10, w_putI, i_succ, sc_p]
  · have e : (decide (x < n) && isB (u x)) = false := by
      by_cases c : x < n
      · rw [hf c, Bool.and_false]
      · rw [decide_eq_false c, Bool.false_and]
    simp only [p12_blanks_L0, m_isB h hx, e, ib_f, obs, if_true, w_getI, sc_10, w_putI, sc_b]
theorem m_letters (h : RT s n u) (hp : p ≤ n) : p12_letters (ob g 287) (mm g (sc s p b) l r) = some (mm g (sc s (eL u n (sk u n p)) (sk u n p)) l r) := by
  have hn := h.2.1
  rw [p12_letters, w_gd, m_blanks h hp]
  refine rU_lp (f := fun j => isL (u j)) (n := n) (fun m x => p12_letters_L4 m (ob g 287) (mm g (sc s x (sk u n p)) l r)) (fun x => some (mm g (sc s x (sk u n p)) l r)) 0 (fun m x _ hx hf => ?_) (fun m x _ hx hf => ?_) gF (sk u n p) (Nat.zero_le _) (rU_le hp) (Nat.lt_of_lt_of_le (gF_gt (n := n) (by omega)) (Nat.le_add_right _ _))
  · have d : decide (x < n) = true := decide_eq_true hx
    simp only [p12_letters_L4, m_isL h (show x ≤ n by omega), d, hf, Bool.and_true, ib_t, obs, one_z, if_false, w_getI, sc_10, w_putI, i_succ, sc_p]
  · have e : (decide (x < n) && isL (u x)) = false := by
      by_cases c : x < n
      · rw [hf c, Bool.and_false]
      · rw [decide_eq_false c, Bool.false_and]
    simp only [p12_letters_L4, m_isL h hx, e, ib_f, obs, if_true]
end
