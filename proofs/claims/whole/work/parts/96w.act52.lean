section
variable {g : Nat} {s s' s0 : tS} {l : tL} {r : Nat → Nat} {n p b q e k N : Nat} {u : Nat → Nat} {C C' : Co}
theorem hh_sz (h : Zc C) : ∀ v : Nat, v < 1000 → (C.1 0 - 1 < Int32.ofNat v ↔ ¬ (v < sz C)) := by
  intro v hv
  have h8 := h.2
  rw [h.1]
  by_cases c : sz C = 0
  · rw [c]
    have e : Int32.ofNat 0 - 1 = -1 := by decide
    rw [e, i_ltI, i_toInt (by omega)]
    have : (-1 : Int32).toInt = -1 := by decide
    omega
  · rw [i_sub1 (by omega) (by omega)]
    exact (i_lt (by omega) (by omega)).trans (by omega)
theorem c_tP_t (hI : Is s 16 C) (hA : ATrF s n u N k) (ht : inN u n (tk u n k) 0 (sz C) = true) : ∃ s', p3_tookPerson (ob g 48) (mm g s l r) = some (1, mm g s' l r) ∧ cF s s' ∧ Is s' 16 C ∧ ATrF s' n u N (k + 1) ∧ s' 48 7 = Int32.ofNat (nuV u n (tk u n k)) := by
  have hk := hA.tk.1.mpr (num_sk ht).2
  have e := rF_tN_t (g := g) (l := l) (r := r) hA (by decide) (hh_sz hI.2.1) ht
  have F : cF s (up2 (up2 s 48 7 (Int32.ofNat (nuV u n (tk u n k)))) 48 6 (Int32.ofNat (k + 1))) := (cF.up (by omega)).trans (cF.up (by omega))
  refine ⟨_, ?_, F, (hI.up (o := 48) (by omega)).up (o := 48) (by omega), hA.cF F up2_eq hk, by rw [up2_ne (by omega), up2_eq]⟩
  have e' : p3_tookNumber (ob g 48) 0 (C.1 0 - 1) (mm g s l r) = _ := e
  simp only [p3_tookPerson, rF_gd, rF_R8, obs, c_n hI, e', bZ_1]
theorem c_tP_f (hI : Is s 16 C) (hA : ATrF s n u N k) (ht : inN u n (tk u n k) 0 (sz C) = false) : p3_tookPerson (ob g 48) (mm g s l r) = some (0, mm g s l r) := by
  have e := rF_tN_f (g := g) (l := l) (r := r) hA (by decide) (hh_sz hI.2.1) ht
  have e' : p3_tookNumber (ob g 48) 0 (C.1 0 - 1) (mm g s l r) = _ := e
  simp only [p3_tookPerson, rF_gd, rF_R8, obs, c_n hI, e', bZ_0]
theorem m_pT_t (hM : Ms s C) (h : RT s n u) (hp : p ≤ n) (hs : sk u n p = q) (ht : inN u n q 0 (sz C) = true) : p12_personTold (ob g 287) (mm g (sc s p b) l r) = some (Int32.ofNat (nuV u n q), mm g (sc s (eD u n q) q) l r) := by
  have e := m_num_t (g := g) (l := l) (r := r) (b := b) h hp (by decide) (hh_sz hM.1) hs ht
  have e' : p12_number (ob g 287) 0 (C.1 0 - 1) (mm g (sc s p b) l r) = _ := e
  simp only [p12_personTold, w_gd, m_people (ms_sc hM), obs, e']
theorem m_pT_f (hM : Ms s C) (h : RT s n u) (hp : p ≤ n) (hs : sk u n p = q) (ht : inN u n q 0 (sz C) = false) : p12_personTold (ob g 287) (mm g (sc s p b) l r) = some (-1, mm g (sc s (eD u n q) q) l r) := by
  have e := m_num_f (g := g) (l := l) (r := r) (b := b) h hp (by decide) (hh_sz hM.1) hs ht
  have e' : p12_number (ob g 287) 0 (C.1 0 - 1) (mm g (sc s p b) l r) = _ := e
  simp only [p12_personTold, w_gd, m_people (ms_sc hM), obs, e']
theorem m1_lt : ((-1 : Int32) < 0) = True := by decide
/-! GOVERNS -/
theorem jl_gov (hk : k < N) (hp : p ≤ n) (hs : sk u n p = tk u n (k + 1)) (hC : VC C) : JL g n u N (p3_readGoverns (ob g 48)) (p12_readGoverns (ob g 287)) C k p b := by
  cases ok1 : inN u n (tk u n (k + 1)) 0 (sz C) with
  | false =>
    refine ⟨false, C, k + 1, fun s l r hI hA => ?_, fun s l r hM hR => ?_, fun h => (by cases h)⟩
    · have A1 := hA.go hk
      have I1 : Is (up2 s 48 6 (Int32.ofNat (k + 1))) 16 C := hI.up (o := 48) (by omega)
      have e6 := hA.2.2.1
      refine ⟨_, C, ?_, cF.up (by omega), I1, A1, fun h => (by cases h)⟩
      simp only [p3_readGoverns, rF_gd, rF_I, e6, obs, rF_P, i_succ, c_tP_f I1 A1 ok1, if_true, ib_f]
    · refine ⟨s, eD u n (tk u n (k + 1)), tk u n (k + 1), ?_, mF'.refl, rU_le (tk_le _), fun h => (by cases h), fun _ => rfl⟩
      simp only [p12_readGoverns, w_gd, m_pT_f hM hR hp hs ok1, obs, m1_lt, if_true, p12_readGoverns_J17, p12_readGoverns_J27, ib_f]
  | true =>
    obtain ⟨nb, n1, n2, n3⟩ := in_nu ok1
    obtain ⟨k1, k2⟩ := num_sk ok1
    have k1 : sk u n (eD u n (tk u n (k + 1))) = tk u n (k + 2) := k1
    have kp : eD u n (tk u n (k + 1)) ≤ n := rU_le (tk_le _)
    have e8 : (Int32.ofNat (nuV u n (tk u n (k + 1))) < 0) = False := eq_false (i_nlt0 (by omega))
    cases ok2 : inN u n (tk u n (k + 2)) 0 (sz C) with
    | false =>
      refine ⟨false, C, k + 2, fun s l r hI hA => ?_, fun s l r hM hR => ?_, fun h => (by cases h)⟩
      · have A1 := hA.go hk
        have I1 : Is (up2 s 48 6 (Int32.ofNat (k + 1))) 16 C := hI.up (o := 48) (by omega)
        have e6 := hA.2.2.1
        obtain ⟨s2, e2, F2, I2, A2, e7⟩ := c_tP_t (g := g) (l := l) (r := r) I1 A1 ok1
        refine ⟨s2, C, ?_, (cF.up (by omega)).trans F2, I2, A2, fun h => (by cases h)⟩
        simp only [p3_readGoverns, rF_gd, rF_I, e6, obs, rF_P, i_succ, e2, one_z, if_false, c_tP_f I2 A2 ok2, if_true, ib_f]
      · refine ⟨s, eD u n (tk u n (k + 2)), tk u n (k + 2), ?_, mF'.refl, rU_le (tk_le _), fun h => (by cases h), fun _ => rfl⟩
        simp only [p12_readGoverns, w_gd, m_pT_t hM hR hp hs ok1, obs, e8, if_false, m_pT_f hM hR kp k1 ok2, p12_readGoverns_J17, m1_lt, if_true, p12_readGoverns_J27, ib_f]
    | true =>
      obtain ⟨mb, m1, m2, m3⟩ := in_nu ok2
      obtain ⟨k3, k4⟩ := num_sk ok2
      have e9 : (Int32.ofNat (nuV u n (tk u n (k + 2))) < 0) = False := eq_false (i_nlt0 (by omega))
      have eq : (Int32.ofNat (nuV u n (tk u n (k + 2))) = Int32.ofNat (nuV u n (tk u n (k + 1)))) = (nuV u n (tk u n (k + 2)) = nuV u n (tk u n (k + 1))) := propext (i_eq (by omega) (by omega))
      by_cases c : nuV u n (tk u n (k + 2)) = nuV u n (tk u n (k + 1))
      · have ct : (nuV u n (tk u n (k + 2)) = nuV u n (tk u n (k + 1))) = True := eq_true c
        rw [ct] at eq
        refine ⟨false, C, k + 2, fun s l r hI hA => ?_, fun s l r hM hR => ?_, fun h => (by cases h)⟩
        · have A1 := hA.go hk
          have I1 : Is (up2 s 48 6 (Int32.ofNat (k + 1))) 16 C := hI.up (o := 48) (by omega)
          have e6 := hA.2.2.1
          obtain ⟨s2, e2, F2, I2, A2, e7⟩ := c_tP_t (g := g) (l := l) (r := r) I1 A1 ok1
          obtain ⟨s3, e3, F3, I3, A3, e7'⟩ := c_tP_t (g := g) (l := l) (r := r) I2 A2 ok2
          have F4 : cF s (up2 s3 48 6 (Int32.ofNat (k + 2))) := (((cF.up (by omega)).trans F2).trans F3).trans (cF.up (by omega))
          have e6' := A3.2.2.1
          have e10 : Int32.ofNat (k + 1 + 1 + 1) - 1 = Int32.ofNat (k + 2) := by rw [i_sub1 (by omega) (by have := A3.2.1; have := A3.1.1; have := A3.2.2.2.1; omega)]; rfl
          refine ⟨_, C, ?_, F4, I3.up (o := 48) (by omega), hA.cF F4 up2_eq (by have := A3.2.1; omega), fun h => (by cases h)⟩
          simp only [p3_readGoverns, rF_gd, rF_I, e6, obs, rF_P, i_succ, e2, one_z, if_false, e7, e3, e7', eq, if_true, e6', e10, ib_f]
        · refine ⟨s, eD u n (tk u n (k + 2)), tk u n (k + 2), ?_, mF'.refl, rU_le (tk_le _), fun h => (by cases h), fun _ => rfl⟩
          simp only [p12_readGoverns, w_gd, m_pT_t hM hR hp hs ok1, obs, e8, if_false, m_pT_t hM hR kp k1 ok2, p12_readGoverns_J17, e9, eq, if_true, p12_readGoverns_J27, ib_f]
      · have ct : (nuV u n (tk u n (k + 2)) = nuV u n (tk u n (k + 1))) = False := eq_false c
        rw [ct] at eq
        obtain ⟨i, hi⟩ : ∃ i, i = nuV u n (tk u n (k + 1)) := ⟨_, rfl⟩
        obtain ⟨j, hj⟩ : ∃ j, j = nuV u n (tk u n (k + 2)) := ⟨_, rfl⟩
        rw [← hi] at n2
        rw [← hj] at m2
        obtain ⟨m, hm, em⟩ := (hC.2.2.2.2.2.2 j m2).2.2.2.2.2.2.2.2.1
        obtain ⟨w, hw, hwt, hwf⟩ := gov_val (n := sz C) (i := i) hC.1.2 n2 hm true
        have hwt := (hwt rfl).1
        rw [← em] at hwt
        have hC2 : VC (stP C j 8 (Int32.ofNat w)) := hC.setP (by omega) (by omega) (by omega) (by omega) (by omega) (by omega) (by omega) (fun _ => ⟨w, hw, rfl⟩) (by omega)
        have hj8 := zc_8 hC.1 m2
        rw [← hi] at eq e8
        rw [← hj] at eq e9
        refine ⟨true, stP C j 8 (Int32.ofNat w), k + 3, fun s l r hI hA => ?_, fun s l r hM hR => ?_, fun _ => hC2⟩
        · have A1 := hA.go hk
          have I1 : Is (up2 s 48 6 (Int32.ofNat (k + 1))) 16 C := hI.up (o := 48) (by omega)
          have e6 := hA.2.2.1
          obtain ⟨s2, e2, F2, I2, A2, e7⟩ := c_tP_t (g := g) (l := l) (r := r) I1 A1 ok1
          obtain ⟨s3, e3, F3, I3, A3, e7'⟩ := c_tP_t (g := g) (l := l) (r := r) I2 A2 ok2
          rw [← hi] at e7
          rw [← hj] at e7'
          have F4 : cF s (up2 s3 (16 + 6 + j) 8 (Int32.ofNat w)) := (((cF.up (by omega)).trans F2).trans F3).trans (cF.up (by omega))
          refine ⟨_, _, ?_, F4, I3.setP m2 (by decide), hA.cF F4 (by rw [up2_ne (by omega)]; exact A3.2.2.1) A3.2.1, fun _ => rfl⟩
          simp only [p3_readGoverns, rF_gd, rF_I, e6, obs, rF_P, i_succ, e2, one_z, if_false, e7, e3, e7', eq, rF_R8, p2_setGoverns, c_gd I3, c_has I3, inR_of hC.1 n2, inR_of hC.1 m2, ib_t, c_at I3 m2, c_p I3 m2 (show 8 < 9 by decide), hwt, p2_setGoverns_J52, c_P I3 m2, p2_setGoverns_J55]
        · have M2 : Ms (sc s (eD u n (tk u n (k + 2))) (tk u n (k + 2))) C := ms_sc hM
          have ew : sc s (eD u n (tk u n (k + 2))) (tk u n (k + 2)) 288 (9 + 17 * j + 8) = C.2 j 8 := M2.2.2 j 8 m2 (by decide)
          refine ⟨up2 s 288 (9 + 17 * j + 8) (Int32.ofNat w), eD u n (tk u n (k + 2)), tk u n (k + 2), ?_, mF'.up (by omega), rU_le (tk_le _), fun _ => ⟨hM.setP m2 (by decide), k3⟩, fun h => (by cases h)⟩
          simp only [p12_readGoverns, w_gd, m_pT_t hM hR hp hs ok1, obs, ← hi, ← hj, e8, if_false, m_pT_t hM hR kp k1 ok2, p12_readGoverns_J17, e9, eq, w_R1, w_at8, w_ald (show 9 + 17 * j + 8 < 2143 by omega), ew, hwt, w_ast (show 9 + 17 * j + 8 < 2143 by omega), ib_t, sc_up (show ¬ (288 = 287 ∧ (9 + 17 * j + 8 = 10 ∨ 9 + 17 * j + 8 = 12)) by omega)]
end
