/-! CRADLE, AGAIN, OVER, MILD, TRIAL, SPAN -/
section
variable {g : Nat} {s : tS} {l : tL} {r : Nat → Nat} {b : Nat} {C : Co} {G : Lg} {L : Lw}
theorem cr_bits (hC : Zc C) : ∃ m, m < 256 ∧ sp_cr C = Int32.ofNat m := by
  obtain ⟨m, h1, h2, -⟩ := bits_iter (p := fun i => C.2 i 0 < C.1 5) (sz C) hC.2
  exact ⟨m, Nat.lt_of_lt_of_le h1 (Nat.pow_le_pow_right (by decide) hC.2), h2⟩
def lowest (x : Int32) : Nat := nth (hasb x) 8 0 0
theorem low_nth {m : Nat} (hm : m < 256) : nth (hasb (Int32.ofNat m)) 8 0 0 = nth (fun i => m.testBit i) 8 0 0 := nth_congr 8 0 0 (fun j _ hj => bits_tab m hm j (by omega))
theorem cr_ntz (hC : Zc C) (h0 : sp_cr C ≠ 0) {M : mMem} : pJ6_numberOfTrailingZeros (sp_cr C) M = some (Int32.ofNat (lowest (sp_cr C))) := by
  obtain ⟨m, h1, h2⟩ := cr_bits hC
  have hm : m ≠ 0 := fun e => h0 (by rw [h2, e]; rfl)
  rw [ntz_mem, h2, ntz_tab m h1 hm, lowest, low_nth h1]
theorem cr_oneOf (hC : Zc C) (h0 : sp_cr C ≠ 0) : p12_oneOf (sp_cr C) 0 (mm g s l r) = some (Int32.ofNat (lowest (sp_cr C))) := by
  obtain ⟨m, h1, h2⟩ := cr_bits hC
  have hm : m ≠ 0 := fun e => h0 (by rw [h2, e]; rfl)
  have hc : 0 < cnt (hasb (sp_cr C)) 8 0 := by
    rw [h2, cnt_congr (f' := fun i => m.testBit i) 8 0 (fun j _ hj => bits_tab m h1 j (by omega))]
    have := (cnt_z m h1)
    omega
  have := m_oneOf' (g := g) (s := s) (l := l) (r := r) (x := sp_cr C) rfl 8 gF 0 0 (by omega) (gF_gt (by omega)) (by omega) hc
  rw [p12_oneOf]
  exact this
theorem low_8 {x : Int32} : lowest x ≤ 8 := by
  have key : ∀ k i t, nth (hasb x) k i t ≤ i + k := by
    intro k
    induction k with
    | zero => intro i t; exact Nat.le_refl _
    | succ k ih =>
      intro i t
      simp only [nth]
      have a := ih (i + 1) (t - 1)
      have b := ih (i + 1) t
      split
      · split <;> omega
      · omega
  have := key 8 0 0
  unfold lowest
  omega
theorem nmN {j : Nat} (h : j < 2147483648) : (Int32.ofNat j = -1) = False := eq_false (fun e => by
  have := congrArg Int32.toInt e
  rw [i_toInt h] at this
  have z : (-1 : Int32).toInt = -1 := rfl
  omega)
theorem lt100 {i : Nat} (h : i < 2147483648) : ((100 : Int32) < Int32.ofNat i) = (100 < i) := propext (i_lt (a := 100) (by omega) h)
/-- the first day by which somebody lies in the crib -/
def crF (L : Lw) (y : Bool) (i : Nat) (C : Co) : Co ⊕ Option (Nat × Int32) := if sp_cr C = 0 then .inl (aheadF L y C) else .inr (some (i, sp_cr C))
def crR (L : Lw) (y : Bool) (C : Co) : Option (Nat × Int32) := lpx (crF L y) (fun _ => none) 101 0 C
def crV (w : Bool) (x : Option (Nat × Int32)) : Int32 := match x with
  | none => -1
  | some p => if w = true then Int32.ofNat (lowest p.2) else Int32.ofNat p.1
theorem op_cradle {x1 x2 : Bool} : Dir g (fun M => p11_cradle (ob g 0) (ib x1) (ib x2) M) (fun M => p12_cradle (ob g 287) (ib x1) (ib x2) M) := by
  intro s l r hI
  obtain ⟨C, G, L, n, p, hc, ht, hp, hk, hr⟩ := id hI
  obtain ⟨s1, e1, t1, -⟩ := c_trial (g := g) (l := l) (r := r) hc hr
  have h1 := it_sx (L := fun n' (a : tS) j => p1_firstInCrib_L13 p1_firstInCrib_J33 n' (ob g 80) (ib x1) (ib x2) j (mm g a l r)) (R := fun _ a x => ∃ G1, CS s 81 L (sz C) a x G1) (Q := fun B t => ∃ s2, B = some (crV x2 t, mm g s2 l r) ∧ RS s s2) (f := crF L x1) (K := fun _ => none) (N := 101) (fun n j a x hj hR => by
      obtain ⟨G1, h1⟩ := hR
      have c : ¬ (100 : Int32) < Int32.ofNat j := by rw [lt100 (by omega)]; omega
      by_cases h0 : sp_cr x = 0
      · obtain ⟨s2, G2, e2, h2⟩ := cs_ahead (g := g) (l := l) (r := r) (y := x1) hc.2.2.2 h1
        refine Or.inl ⟨aheadF L x1 x, s2, by rw [crF, if_pos h0], ⟨G2, h2⟩, ?_⟩
        simp only [p1_firstInCrib_L13, c, if_false, d_R2, obs, tc_crib h1.1, h0, if_true, e2, i_succ]
      · refine Or.inr ⟨some (j, sp_cr x), by rw [crF, if_neg h0], a, ?_, cs_rs h1⟩
        simp only [p1_firstInCrib_L13, c, if_false, d_R2, obs, tc_crib h1.1, h0, p1_firstInCrib_J46, p1_firstInCrib_J33, p1_firstInCrib, cr_ntz h1.1.2.1 h0, ib_z, crV]
        cases x2 <;> simp) (fun n a x hR => by
      obtain ⟨G1, h1⟩ := hR
      have c : (100 : Int32) < Int32.ofNat 101 := by decide
      refine ⟨a, ?_, cs_rs h1⟩
      simp only [p1_firstInCrib_L13, c, if_true, crV]) 101 gF 0 s1 C (by omega) (gF_gt (by omega)) ⟨G, t1⟩
  obtain ⟨s2, e2, r2⟩ := h1
  have hc2 := hc.rs r2
  have h2 := it_sx (L := fun n' (a : tS) j => p12_cradle_L14 (n' + 1) (ob g 287) (ib x1) (ib x2) (-1) j (mm g a l r)) (R := fun _ a x => MS (cpS (up2 s2 287 0 0) 291 0 288 0 445) pC L (sz C) a x) (Q := fun B t => ∃ s3, B = some (crV x2 t, mm g s3 l r) ∧ RS s2 s3) (f := crF L x1) (K := fun _ => none) (N := 101) (fun n j a x hj hR => by
      have c : ¬ (100 : Int32) < Int32.ofNat j := by rw [lt100 (by omega)]; omega
      obtain ⟨s3, e3, h3⟩ := ms_ahead (g := g) (l := l) (r := r) (y := x1) hc2.2.2.2 hR
      by_cases h0 : sp_cr x = 0
      · refine Or.inl ⟨aheadF L x1 x, s3, by rw [crF, if_pos h0], h3, ?_⟩
        rw [p12_cradle_L14]
        simp only [c, if_false, if_true, eq_self, obs, tm_crib hR.1, h0, p12_cradle_J64, p12_cradle_J53, p12_cradle_J52, p12_cradle, e3, i_succ]
      · refine Or.inr ⟨some (j, sp_cr x), by rw [crF, if_neg h0], cpS s3 288 0 291 0 445, ?_, (ms_end h3).1⟩
        have hlow := low_8 (x := sp_cr x)
        have fin : ∀ v : Int32, (v = -1) = False → p12_cradle_L14 (n + 1) (ob g 287) (ib x1) (ib x2) v (Int32.ofNat j + 1) (mm g s3 l r) = some (v, mm g (cpS s3 288 0 291 0 445) l r) := by
          intro v hv
          by_cases c2 : (100 : Int32) < Int32.ofNat j + 1
          · simp only [p12_cradle_L14, c2, if_true, p12_cradle_J64, p12_cradle_J53, p12_cradle_J52, p12_cradle, m_brings, obs]
          · simp only [p12_cradle_L14, c2, if_false, hv, p12_cradle_J64, p12_cradle_J53, p12_cradle_J52, p12_cradle, m_brings, obs]
        rw [p12_cradle_L14]
        simp only [c, if_false, if_true, eq_self, obs, tm_crib hR.1, h0, p12_cradle_J64, p12_cradle_J53, p12_cradle_J52, p12_cradle, cr_oneOf hR.1.1 h0, e3, ib_z, crV]
        cases x2
        · simp only [if_true, Bool.false_eq_true, if_false]
          exact fin _ (nmN (by omega))
        · simp only [Bool.true_eq_false, if_false, if_true]
          exact fin _ (nmN (by omega))) (fun n a x hR => by
      have c : (100 : Int32) < Int32.ofNat 101 := by decide
      refine ⟨cpS a 288 0 291 0 445, ?_, (ms_end hR).1⟩
      simp only [p12_cradle_L14, c, if_true, p12_cradle_J64, p12_cradle_J53, p12_cradle_J52, p12_cradle, m_brings, obs, crV]) 101 (gF - 1) 0 (cpS (up2 s2 287 0 0) 291 0 288 0 445) C (by omega) (by decide) (ms_begin hc2)
  obtain ⟨s3, e3, r3⟩ := h2
  refine ⟨crV x2 (crR L x1 C), s2, r, s3, ?_, ?_, (hI.rs r2).rs r3⟩
  · simp only [p11_cradle, a_gd, a_R14, obs, p1_firstInCrib, d_gd, d_R2, d_R0, e1]
    have e2' : p1_firstInCrib_L13 p1_firstInCrib_J33 gF (ob g 80) (ib x1) (ib x2) 0 (mm g s1 l r) = some (crV x2 (crR L x1 C), mm g s2 l r) := e2
    rw [e2', obs]
  · simp only [p12_cradle, w_gd, w_putI, obs, m_keeps]
    exact e3
/-! AGAIN -/
def sameA (C C1 : Co) : Bool := lpx (fun i (_ : Unit) => if C1.2 i 0 = C.2 i 0 then .inl () else .inr false) (fun _ => true) (sz C) 0 ()
def agF (L : Lw) (y : Bool) (C0 : Co) (i : Nat) (C : Co) : Co ⊕ Option Nat := if sameA C0 (aheadF L y C) = true then .inr (some i) else .inl (aheadF L y C)
theorem tc_same {C1 : Co} (h : Is s 2 C) (h1 : Is s 81 C1) (hz : sz C1 = sz C) : p1_areAsNow (ob g 80) (ob g 81) (mm g s l r) = some (ib (sameA C C1)) := by
  rw [p1_areAsNow, d_gd]
  refine it_sx (L := fun n (_ : Unit) i => p1_areAsNow_L2 (mm g s l r) n (ob g 80) (ob g 81) i) (R := fun _ _ _ => True) (Q := fun B t => B = some (ib t)) (f := fun i (_ : Unit) => if C1.2 i 0 = C.2 i 0 then .inl () else .inr false) (K := fun _ => true) (N := sz C) (fun n i a x hi _ => ?_) (fun n a x _ => ?_) (sz C) gF 0 () () (by omega) (sz_gF h.2.1) trivial
  · have hi1 : i < sz C1 := by rw [hz]; exact hi
    by_cases e : C1.2 i 0 = C.2 i 0
    · refine Or.inl ⟨(), (), by rw [if_pos e], trivial, ?_⟩
      simp only [p1_areAsNow_L2, d_R0, obs, c_n h, zc_yes h.2.1 hi, if_true, c_at h1 hi1, c_p h1 hi1 (show 0 < 9 by decide), c_at h hi, c_p h hi (show 0 < 9 by decide), e, i_succ]
    · refine Or.inr ⟨false, by rw [if_neg e], ?_⟩
      simp only [p1_areAsNow_L2, d_R0, obs, c_n h, zc_yes h.2.1 hi, if_true, c_at h1 hi1, c_p h1 hi1 (show 0 < 9 by decide), c_at h hi, c_p h hi (show 0 < 9 by decide), e, if_false, ib_f]
  · simp only [p1_areAsNow_L2, d_R0, obs, c_n h, zc_no h.2.1, if_false, ib_t]
theorem tm_same {C1 : Co} (hk : ∀ i, i < sz C → s 291 (9 + 17 * i + 0) = C.2 i 0) (h1 : Ms s C1) (hz : sz C1 = sz C) : p12_agesAsKept (ob g 287) (mm g s l r) = some (ib (sameA C C1)) := by
  rw [p12_agesAsKept, w_gd]
  have dead : ∀ (k fuel i : Nat), i + k = sz C → k < fuel → p12_agesAsKept_L4 (mm g s l r) fuel (ob g 287) 0 (Int32.ofNat i) = some 0 := by
    intro k
    induction k with
    | zero =>
      intro fuel i a c
      obtain ⟨n, rfl⟩ : ∃ n, fuel = n + 1 := ⟨fuel - 1, by omega⟩
      have e : i = sz C1 := by omega
      subst e
      simp only [p12_agesAsKept_L4, m_people h1, obs, zc_no h1.1, if_false, bZ_0]
    | succ k ih =>
      intro fuel i a c
      obtain ⟨n, rfl⟩ : ∃ n, fuel = n + 1 := ⟨fuel - 1, by omega⟩
      simp only [p12_agesAsKept_L4, m_people h1, obs, zc_yes h1.1 (show i < sz C1 by omega), if_true, p12_agesAsKept_J40, p12_agesAsKept_J39, p12_agesAsKept, i_succ]
      exact ih n (i + 1) (by omega) (by omega)
  have key : ∀ (k fuel i : Nat), i + k = sz C → k < fuel → p12_agesAsKept_L4 (mm g s l r) fuel (ob g 287) 1 (Int32.ofNat i) = some (ib (lpx (fun i (_ : Unit) => if C1.2 i 0 = C.2 i 0 then Sum.inl () else Sum.inr false) (fun _ => true) k i ())) := by
    intro k
    induction k with
    | zero =>
      intro fuel i a c
      obtain ⟨n, rfl⟩ : ∃ n, fuel = n + 1 := ⟨fuel - 1, by omega⟩
      have e : i = sz C1 := by omega
      subst e
      simp only [p12_agesAsKept_L4, m_people h1, obs, zc_no h1.1, if_false, bZ_1, lpx, ib_t]
    | succ k ih =>
      intro fuel i a c
      obtain ⟨n, rfl⟩ : ∃ n, fuel = n + 1 := ⟨fuel - 1, by omega⟩
      have hi : i < sz C1 := by omega
      have h8 := zc_8 h1.1 hi
      simp only [p12_agesAsKept_L4, m_people h1, obs, zc_yes h1.1 hi, if_true, one_z, if_false, m_of0 h1 hi, w_R4, w_at0, t_ald (show 9 + 17 * i + 0 < 445 by omega), hk i (by omega), p12_agesAsKept_J40, p12_agesAsKept_J39, p12_agesAsKept, i_succ, lpx]
      by_cases e : C1.2 i 0 = C.2 i 0
      · simp only [e, if_true]
        exact ih n (i + 1) (by omega) (by omega)
      · simp only [e, if_false]
        exact dead k n (i + 1) (by omega) (by omega)
  exact key (sz C) gF 0 (by omega) (gF_gt (by have := h1.1.2; omega))
end
