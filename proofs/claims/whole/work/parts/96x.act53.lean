section
variable {g : Nat} {s s' s0 : tS} {l : tL} {r : Nat → Nat} {n p b q e k N : Nat} {u : Nat → Nat} {C C' : Co}
/-! WED -/
theorem jl_wed (hk : k < N) (hp : p ≤ n) (hs : sk u n p = tk u n (k + 1)) (hC : VC C) : JL g n u N (p3_readWed (ob g 48)) (p12_readWed (ob g 287)) C k p b := by
  cases ok1 : inN u n (tk u n (k + 1)) 0 (sz C) with
  | false =>
    refine ⟨false, C, k + 1, fun s l r hI hA => ?_, fun s l r hM hR => ?_, fun h => (by cases h)⟩
    · have A1 := hA.go hk
      have I1 : Is (up2 s 48 6 (Int32.ofNat (k + 1))) 16 C := hI.up (o := 48) (by omega)
      have e6 := hA.2.2.1
      refine ⟨_, C, ?_, cF.up (by omega), I1, A1, fun h => (by cases h)⟩
      simp only [p3_readWed, rF_gd, rF_I, e6, obs, rF_P, i_succ, c_tP_f I1 A1 ok1, if_true, ib_f]
    · refine ⟨s, eD u n (tk u n (k + 1)), tk u n (k + 1), ?_, mF'.refl, rU_le (tk_le _), fun h => (by cases h), fun _ => rfl⟩
      simp only [p12_readWed, w_gd, m_pT_f hM hR hp hs ok1, obs, m1_lt, if_true, p12_readWed_J17, p12_readWed_J31, ib_f]
  | true =>
    obtain ⟨nb, n1, n2, n3⟩ := in_nu ok1
    obtain ⟨k1, k2⟩ := num_sk ok1
    have k1 : sk u n (eD u n (tk u n (k + 1))) = tk u n (k + 2) := k1
    have kp : eD u n (tk u n (k + 1)) ≤ n := rU_le (tk_le _)
    have e8 : (Int32.ofNat (nuV u n (tk u n (k + 1))) < 0) = False := eq_false (i_nlt0 (by omega))
    cases ok2 : inN u n (tk u n (k + 2)) 0 (sz C) with
    | false =>
      refine ⟨false, C, k + 2, fun s l r hI hA => ?_, fun s l r hM hR => ?_, fun h => (by cases h)⟩
      · have A1 := hA.go hk
        have I1 : Is (up2 s 48 6 (Int32.ofNat (k + 1))) 16 C := hI.up (o := 48) (by omega)
        have e6 := hA.2.2.1
        obtain ⟨s2, e2, F2, I2, A2, e7⟩ := c_tP_t (g := g) (l := l) (r := r) I1 A1 ok1
        refine ⟨s2, C, ?_, (cF.up (by omega)).trans F2, I2, A2, fun h => (by cases h)⟩
        simp only [p3_readWed, rF_gd, rF_I, e6, obs, rF_P, i_succ, e2, one_z, if_false, c_tP_f I2 A2 ok2, if_true, ib_f]
      · refine ⟨s, eD u n (tk u n (k + 2)), tk u n (k + 2), ?_, mF'.refl, rU_le (tk_le _), fun h => (by cases h), fun _ => rfl⟩
        simp only [p12_readWed, w_gd, m_pT_t hM hR hp hs ok1, obs, e8, if_false, m_pT_f hM hR kp k1 ok2, p12_readWed_J17, m1_lt, if_true, p12_readWed_J31, ib_f]
    | true =>
      obtain ⟨mb, m1, m2, m3⟩ := in_nu ok2
      obtain ⟨k3, k4⟩ := num_sk ok2
      have e9 : (Int32.ofNat (nuV u n (tk u n (k + 2))) < 0) = False := eq_false (i_nlt0 (by omega))
      obtain ⟨i, hi⟩ : ∃ i, i = nuV u n (tk u n (k + 1)) := ⟨_, rfl⟩
      obtain ⟨j, hj⟩ : ∃ j, j = nuV u n (tk u n (k + 2)) := ⟨_, rfl⟩
      rw [← hi] at n2 e8
      rw [← hj] at m2 e9
      cases hm : may C i j with
      | false =>
        refine ⟨false, C, k + 2, fun s l r hI hA => ?_, fun s l r hM hR => ?_, fun h => (by cases h)⟩
        · have A1 := hA.go hk
          have I1 : Is (up2 s 48 6 (Int32.ofNat (k + 1))) 16 C := hI.up (o := 48) (by omega)
          have e6 := hA.2.2.1
          obtain ⟨s2, e2, F2, I2, A2, e7⟩ := c_tP_t (g := g) (l := l) (r := r) I1 A1 ok1
          obtain ⟨s3, e3, F3, I3, A3, e7'⟩ := c_tP_t (g := g) (l := l) (r := r) I2 A2 ok2
          rw [← hi] at e7
          rw [← hj] at e7'
          have F4 : cF s (up2 s3 48 6 (Int32.ofNat (k + 2))) := (((cF.up (by omega)).trans F2).trans F3).trans (cF.up (by omega))
          have e6' := A3.2.2.1
          have e10 : Int32.ofNat (k + 1 + 1 + 1) - 1 = Int32.ofNat (k + 2) := by rw [i_sub1 (by omega) (by have := A3.2.1; have := A3.1.1; have := A3.2.2.2.1; omega)]; rfl
          refine ⟨_, C, ?_, F4, I3.up (o := 48) (by omega), hA.cF F4 up2_eq (by have := A3.2.1; omega), fun h => (by cases h)⟩
          simp only [p3_readWed, rF_gd, rF_I, e6, obs, rF_P, i_succ, e2, one_z, if_false, e7, e3, e7', rF_R8, c_may I3 n2 m2, hm, if_true, e6', e10, ib_f]
        · refine ⟨s, eD u n (tk u n (k + 2)), tk u n (k + 2), ?_, mF'.refl, rU_le (tk_le _), fun h => (by cases h), fun _ => rfl⟩
          simp only [p12_readWed, w_gd, m_pT_t hM hR hp hs ok1, obs, ← hi, ← hj, e8, if_false, m_pT_t hM hR kp k1 ok2, p12_readWed_J17, e9, m_may (ms_sc hM) n2 m2, hm, if_true, p12_readWed_J31, ib_f]
      | true =>
        have hi8 := zc_8 hC.1 n2
        have hj8 := zc_8 hC.1 m2
        have hC2 : VC (stP C i 4 (Int32.ofNat j)) := hC.setP (by omega) (by omega) (by omega) (by omega) (fun _ => Or.inr ⟨j, m2, rfl⟩) (by omega) (by omega) (by omega) (by omega)
        have hC3 : VC (stP (stP C i 4 (Int32.ofNat j)) j 4 (Int32.ofNat i)) := hC2.setP (by omega) (by omega) (by omega) (by omega) (fun _ => Or.inr ⟨i, n2, rfl⟩) (by omega) (by omega) (by omega) (by omega)
        have hj2 : j < sz (stP C i 4 (Int32.ofNat j)) := m2
        refine ⟨true, stP (stP C i 4 (Int32.ofNat j)) j 4 (Int32.ofNat i), k + 3, fun s l r hI hA => ?_, fun s l r hM hR => ?_, fun _ => hC3⟩
        · have A1 := hA.go hk
          have I1 : Is (up2 s 48 6 (Int32.ofNat (k + 1))) 16 C := hI.up (o := 48) (by omega)
          have e6 := hA.2.2.1
          obtain ⟨s2, e2, F2, I2, A2, e7⟩ := c_tP_t (g := g) (l := l) (r := r) I1 A1 ok1
          obtain ⟨s3, e3, F3, I3, A3, e7'⟩ := c_tP_t (g := g) (l := l) (r := r) I2 A2 ok2
          rw [← hi] at e7
          rw [← hj] at e7'
          have I4 := I3.setP (i := i) (k := 4) (v := Int32.ofNat j) n2 (by decide)
          have I5 := I4.setP (i := j) (k := 4) (v := Int32.ofNat i) hj2 (by decide)
          have F4 : cF s (up2 (up2 s3 (16 + 6 + i) 4 (Int32.ofNat j)) (16 + 6 + j) 4 (Int32.ofNat i)) := ((((cF.up (by omega)).trans F2).trans F3).trans (cF.up (by omega))).trans (cF.up (by omega))
          refine ⟨_, _, ?_, F4, I5, hA.cF F4 (by rw [up2_ne (by omega), up2_ne (by omega)]; exact A3.2.2.1) A3.2.1, fun _ => rfl⟩
          simp only [p3_readWed, rF_gd, rF_I, e6, obs, rF_P, i_succ, e2, one_z, if_false, e7, e3, e7', rF_R8, c_may I3 n2 m2, hm, ib_t, p2_join, c_gd I3, c_at I3 n2, c_P I3 n2, c_at I4 hj2, c_P I4 hj2]
        · have M4 := hM.setP (i := i) (k := 4) (v := Int32.ofNat j) n2 (by decide)
          have M5 := M4.setP (i := j) (k := 4) (v := Int32.ofNat i) hj2 (by decide)
          refine ⟨up2 (up2 s 288 (9 + 17 * i + 4) (Int32.ofNat j)) 288 (9 + 17 * j + 4) (Int32.ofNat i), eD u n (tk u n (k + 2)), tk u n (k + 2), ?_, (mF'.up (by omega)).trans (mF'.up (by omega)), rU_le (tk_le _), fun _ => ⟨M5, k3⟩, fun h => (by cases h)⟩
          simp only [p12_readWed, w_gd, m_pT_t hM hR hp hs ok1, obs, ← hi, ← hj, e8, if_false, m_pT_t hM hR kp k1 ok2, p12_readWed_J17, e9, m_may (ms_sc hM) n2 m2, hm, p12_weds, w_R1, w_at4, m_astP hi8 (show 4 < 17 by decide), m_astP hj8 (show 4 < 17 by decide), ib_t, one_z, sc_up (show ¬ (288 = 287 ∧ (9 + 17 * i + 4 = 10 ∨ 9 + 17 * i + 4 = 12)) by omega), sc_up (show ¬ (288 = 287 ∧ (9 + 17 * j + 4 = 10 ∨ 9 + 17 * j + 4 = 12)) by omega)]
/-! ROUND -/
def agN (C : Co) (i : Nat) : Nat := (C.2 i 0).toInt.toNat
def mxN (C : Co) : Nat → Nat
  | 0 => 0
  | i + 1 => max (mxN C i) (agN C i + 1)
theorem ag_of (hC : VC C) {i : Nat} (hi : i < sz C) : C.2 i 0 = Int32.ofNat (agN C i) ∧ agN C i < 99 := by
  have h0 := (hC.2.2.2.2.2.2 i hi).1
  have hr := vc_r hC
  have hb : agN C i < 99 := by
    unfold agN
    omega
  refine ⟨?_, hb⟩
  apply i_ext
  rw [i_toInt (by omega)]
  unfold agN
  omega
theorem mxn_b (hC : VC C) : ∀ i, i ≤ sz C → mxN C i < 100 ∧ ∀ j, j < i → agN C j < mxN C i := by
  intro i
  induction i with
  | zero => exact fun _ => ⟨show 0 < 100 by decide, fun j hj => absurd hj (Nat.not_lt_zero j)⟩
  | succ i ih =>
    intro hi
    obtain ⟨h1, h2⟩ := ih (by omega)
    have h3 := (ag_of hC (i := i) (by omega)).2
    have e : mxN C (i + 1) = max (mxN C i) (agN C i + 1) := rfl
    refine ⟨by omega, fun j hj => ?_⟩
    by_cases c : j = i
    · rw [c]; omega
    · have := h2 j (by omega)
      omega
theorem mxI {a b : Nat} (ha : a < 2147483648) (hb : b < 2147483648) : maxI (Int32.ofNat a) (Int32.ofNat b) = Int32.ofNat (max a b) := by
  unfold maxI
  by_cases c : a < b
  · rw [if_pos ((i_lt ha hb).mpr c)]
    congr 1
    omega
  · rw [if_neg (fun h => c ((i_lt ha hb).mp h))]
    congr 1
    omega
theorem c_great (hI : Is s 16 C) (hC : VC C) {K : Nat → Int32 → mMem → Option (Int32 × mMem)} : p3_readRound_L14 K gF (ob g 48) 2 0 (mm g s l r) = K (ob g 48) (Int32.ofNat (max 2 (mxN C (sz C)))) (mm g s l r) := by
  have h8 := hC.1.2
  refine it_inv (L := fun m (a : Int32) x => p3_readRound_L14 K m (ob g 48) a x (mm g s l r)) (P := fun i a => a = Int32.ofNat (max 2 (mxN C i))) (Q := fun B => B = K (ob g 48) (Int32.ofNat (max 2 (mxN C (sz C)))) (mm g s l r)) (N := sz C) (fun m i a hi hP => ?_) (fun m a hP => ?_) (sz C) gF 0 2 (by omega) (gF_gt (by omega)) rfl
  · left
    obtain ⟨e1, e2⟩ := ag_of hC hi
    have hm := (mxn_b hC i (by omega)).1
    refine ⟨_, rfl, ?_⟩
    subst hP
    have e3 : max (max 2 (mxN C i)) (agN C i + 1) = max 2 (mxN C (i + 1)) := by
      have e : mxN C (i + 1) = max (mxN C i) (agN C i + 1) := rfl
      omega
    simp only [p3_readRound_L14, rF_R8, obs, c_n hI, hI.2.1.1, ltNN (show i < 2147483648 by omega) (show sz C < 2147483648 by omega), hi, if_true, c_at hI hi, c_p hI hi (show 0 < 9 by decide), e1, i_succ, mxI (show max 2 (mxN C i) < 2147483648 by omega) (show agN C i + 1 < 2147483648 by omega), e3]
  · subst hP
    simp only [p3_readRound_L14, rF_R8, obs, c_n hI, hI.2.1.1, ltk_n, if_false]
theorem m_great (hM : Ms s C) (hC : VC C) : p12_greatestAge (ob g 287) (mm g s l r) = some (Int32.ofNat (mxN C (sz C)) - 1) := by
  have h8 := hC.1.2
  rw [p12_greatestAge, w_gd]
  refine it_inv (L := fun m (a : Int32) x => p12_greatestAge_L4 (mm g s l r) m (ob g 287) a x) (P := fun i a => a = Int32.ofNat (mxN C i) - 1) (Q := fun B => B = some (Int32.ofNat (mxN C (sz C)) - 1)) (N := sz C) (fun m i a hi hP => ?_) (fun m a hP => ?_) (sz C) gF 0 (-1) (by omega) (gF_gt (by omega)) (show (-1 : Int32) = Int32.ofNat 0 - 1 by decide)
  · left
    obtain ⟨e1, e2⟩ := ag_of hC hi
    have hm := (mxn_b hC i (by omega)).1
    refine ⟨_, rfl, ?_⟩
    subst hP
    have e3 : maxI (Int32.ofNat (mxN C i) - 1) (Int32.ofNat (agN C i)) = Int32.ofNat (mxN C (i + 1)) - 1 := by
      have e : mxN C (i + 1) = max (mxN C i) (agN C i + 1) := rfl
      have e4 : Int32.ofNat (max (mxN C i) (agN C i + 1)) - 1 = Int32.ofNat (max (mxN C i) (agN C i + 1) - 1) := i_sub1 (by omega) (by omega)
      rw [e, e4]
      by_cases c : mxN C i = 0
      · rw [c]
        have z : Int32.ofNat 0 - 1 = -1 := by decide
        have lt : (-1 : Int32) < Int32.ofNat (agN C i) := by
          rw [i_ltI, i_toInt (by omega)]
          have : (-1 : Int32).toInt = -1 := by decide
          omega
        unfold maxI
        rw [z, if_pos lt]
        congr 1
        all_goals omega
      · rw [i_sub1 (by omega) (by omega), mxI (by omega) (by omega)]
        congr 1
        all_goals omega
    simp only [p12_greatestAge_L4, m_people hM, obs, hM.1.1, ltNN (show i < 2147483648 by omega) (show sz C < 2147483648 by omega), hi, if_true, m_of0 hM hi, e1, e3, i_succ]
  · subst hP
    simp only [p12_greatestAge_L4, m_people hM, obs, hM.1.1, ltk_n, if_false]
theorem VC.rnd' (hC : VC C) {v : Nat} (h1 : max 2 (mxN C (sz C)) ≤ v) (h2 : v < 100) : VC (stG C 4 (Int32.ofNat v)) := by
  have hb := mxn_b hC (sz C) (Nat.le_refl _)
  obtain ⟨a1, a2, a3, a4, a5, a6, a7⟩ := id hC
  have e4 : (stG C 4 (Int32.ofNat v)).1 4 = Int32.ofNat v := show up1 C.1 4 (Int32.ofNat v) 4 = _ from up1_eq
  have eo : ∀ k, k ≠ 4 → (stG C 4 (Int32.ofNat v)).1 k = C.1 k := fun k hk => show up1 C.1 4 (Int32.ofNat v) k = _ from up1_ne hk
  have ez : sz (stG C 4 (Int32.ofNat v)) = sz C := by
    show i2n ((stG C 4 (Int32.ofNat v)).1 0) = i2n (C.1 0)
    rw [eo 0 (by decide)]
  refine ⟨⟨by rw [ez, eo 0 (by decide)]; exact a1.1, by rw [ez]; exact a1.2⟩, by rw [e4]; exact ⟨by rw [i_toInt (by omega)]; omega, by rw [i_toInt (by omega)]; omega⟩, by rw [eo 5 (by decide)]; exact a3, by rw [eo 6 (by decide)]; exact a4, by rw [eo 3 (by decide)]; exact a5, by rw [eo 1 (by decide)]; exact a6, fun i hi => ?_⟩
  rw [ez] at hi ⊢
  rw [e4]
  obtain ⟨b0, b1⟩ := a7 i hi
  have hg := (ag_of hC hi).1
  refine ⟨?_, b1⟩
  show 0 ≤ (C.2 i 0).toInt ∧ (C.2 i 0).toInt < (Int32.ofNat v).toInt
  have := hb.2 i hi
  rw [hg, i_toInt (by omega), i_toInt (by omega)]
  omega
theorem jl_round (hk : k < N) (hN : N ≤ n) (hp : p ≤ n) (hs : sk u n p = tk u n (k + 1)) (hC : VC C) : JL g n u N (p3_readRound (ob g 48)) (fun M => (p12_greatestAge (ob g 287) M).bind fun v_11 => p12_readNumber (ob g 287) 4 (maxI 2 (v_11 + 1)) 99 M) C k p b := by
  have hb := (mxn_b hC (sz C) (Nat.le_refl _)).1
  obtain ⟨ok, C', k', h1, h2, h3⟩ := jl_num (g := g) (b := b) (fk := 5) (wk := 4) (lo := max 2 (mxN C (sz C))) (hi := 99) (h' := 100) hk hN hp hs hC (by omega) (lit_hh (m := 99) (by decide)) (by decide) (by decide) rfl (by decide) (fun v a b c => hC.rnd' a b)
  refine ⟨ok, C', k', fun s l r hI hA => ?_, fun s l r hM hR => ?_, h3⟩
  · obtain ⟨s', C'', e, q⟩ := h1 s l r hI hA
    refine ⟨s', C'', ?_, q⟩
    have I1 : Is (up2 s 48 6 (Int32.ofNat (k + 1))) 16 C := hI.up (o := 48) (by omega)
    have e6 := hA.2.2.1
    rw [← e]
    simp only [p3_readRound, numC, rF_gd, rF_I, e6, obs, rF_P, i_succ, c_great I1 hC, p3_readRound_J49]
  · obtain ⟨s', p', b', e, q⟩ := h2 s l r hM hR
    refine ⟨s', p', b', ?_, q⟩
    rw [← e]
    have e3 : maxI 2 (Int32.ofNat (mxN C (sz C)) - 1 + 1) = Int32.ofNat (max 2 (mxN C (sz C))) := by
      rw [Int32.sub_add_cancel]
      exact mxI (a := 2) (by decide) (by omega)
    simp only [m_great (ms_sc hM) hC, obs, e3]
    rfl
end
