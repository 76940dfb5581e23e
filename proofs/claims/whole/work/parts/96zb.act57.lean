section
variable {g : Nat} {s s' s0 : tS} {l : tL} {r : Nat → Nat} {n p b q e k N : Nat} {u : Nat → Nat} {C C' : Co}
/-! one line -/
theorem jl_line (hk : k ≤ N) (hN : N ≤ n) (hTk : k < N ↔ tk u n k < n) (hC : VC C) : JL g n u N (p3_readLine (ob g 48)) (p12_readFamilyLine (ob g 287)) C k (eL u n (tk u n k)) (tk u n k) := by
  have hpe : eL u n (tk u n k) ≤ n := rU_le (tk_le k)
  by_cases c3 : th u n (tk u n k) = 3
  · obtain ⟨-, a1, a2⟩ := wd_t (w := 0) (by decide) c3
    have hkN := hTk.mpr a1
    obtain ⟨ok, C1, k1, h1, h2, h3⟩ := jl_person hkN hpe a2 hC (g := g)
    refine ⟨ok, C1, k1, fun s l r hI hA => ?_, fun s l r hM hR => ?_, h3⟩
    · obtain ⟨s', C'', e, q⟩ := h1 s l r hI hA
      refine ⟨s', C'', ?_, q⟩
      have sw : p3_readLine (ob g 48) (mm g s l r) = (p3_readPerson (ob g 48) (mm g s l r)).bind fun q_3 => (bZ q_3.1).bind fun z => some (z, q_3.2) := by
        simp only [p3_readLine, rF_gd, rF_next hA, obs, c3]
        rfl
      simp only [sw, e, obs, bZ_ib]
    · obtain ⟨s', p', b', e, q⟩ := h2 s l r hM hR
      refine ⟨s', p', b', ?_, q⟩
      simp only [p12_readFamilyLine, w_gd, mW_t hR (w := 0) (by decide) c3, obs, if_true, one_z, if_false, e, bZ_ib]
  by_cases c11 : th u n (tk u n k) = 11
  · obtain ⟨-, a1, a2⟩ := wd_t (w := 8) (by decide) c11
    have hkN := hTk.mpr a1
    obtain ⟨ok, C1, k1, h1, h2, h3⟩ := jl_gov hkN hpe a2 hC (g := g) (b := tk u n k)
    refine ⟨ok, C1, k1, fun s l r hI hA => ?_, fun s l r hM hR => ?_, h3⟩
    · obtain ⟨s', C'', e, q⟩ := h1 s l r hI hA
      refine ⟨s', C'', ?_, q⟩
      have sw : p3_readLine (ob g 48) (mm g s l r) = (p3_readGoverns (ob g 48) (mm g s l r)).bind fun q_3 => (bZ q_3.1).bind fun z => some (z, q_3.2) := by
        simp only [p3_readLine, rF_gd, rF_next hA, obs, c11]
        rfl
      simp only [sw, e, obs, bZ_ib]
    · obtain ⟨s', p', b', e, q⟩ := h2 s l r hM hR
      refine ⟨s', p', b', ?_, q⟩
      simp only [p12_readFamilyLine, w_gd, mW_f hR (w := 0) (by decide) c3, mW_t hR (w := 8) (by decide) c11, obs, if_true, one_z, if_false, e, bZ_ib]
  by_cases c12 : th u n (tk u n k) = 12
  · obtain ⟨-, a1, a2⟩ := wd_t (w := 9) (by decide) c12
    have hkN := hTk.mpr a1
    obtain ⟨ok, C1, k1, h1, h2, h3⟩ := jl_wed hkN hpe a2 hC (g := g) (b := tk u n k)
    refine ⟨ok, C1, k1, fun s l r hI hA => ?_, fun s l r hM hR => ?_, h3⟩
    · obtain ⟨s', C'', e, q⟩ := h1 s l r hI hA
      refine ⟨s', C'', ?_, q⟩
      have sw : p3_readLine (ob g 48) (mm g s l r) = (p3_readWed (ob g 48) (mm g s l r)).bind fun q_3 => (bZ q_3.1).bind fun z => some (z, q_3.2) := by
        simp only [p3_readLine, rF_gd, rF_next hA, obs, c12]
        rfl
      simp only [sw, e, obs, bZ_ib]
    · obtain ⟨s', p', b', e, q⟩ := h2 s l r hM hR
      refine ⟨s', p', b', ?_, q⟩
      simp only [p12_readFamilyLine, w_gd, mW_f hR (w := 0) (by decide) c3, mW_f hR (w := 8) (by decide) c11, mW_t hR (w := 9) (by decide) c12, obs, if_true, one_z, if_false, e, bZ_ib]
  by_cases c13 : th u n (tk u n k) = 13
  · obtain ⟨-, a1, a2⟩ := wd_t (w := 10) (by decide) c13
    have hkN := hTk.mpr a1
    obtain ⟨ok, C1, k1, h1, h2, h3⟩ := jl_round (g := g) (b := tk u n k) hkN hN hpe a2 hC
    refine ⟨ok, C1, k1, fun s l r hI hA => ?_, fun s l r hM hR => ?_, h3⟩
    · obtain ⟨s', C'', e, q⟩ := h1 s l r hI hA
      refine ⟨s', C'', ?_, q⟩
      have sw : p3_readLine (ob g 48) (mm g s l r) = (p3_readRound (ob g 48) (mm g s l r)).bind fun q_3 => (bZ q_3.1).bind fun z => some (z, q_3.2) := by
        simp only [p3_readLine, rF_gd, rF_next hA, obs, c13]
        rfl
      simp only [sw, e, obs, bZ_ib]
    · obtain ⟨s', p', b', e, q⟩ := h2 s l r hM hR
      refine ⟨s', p', b', ?_, q⟩
      have e' : ((p12_greatestAge (ob g 287) (mm g (sc s (eL u n (tk u n k)) (tk u n k)) l r)).bind fun v_11 => p12_readNumber (ob g 287) 4 (maxI 2 (v_11 + 1)) 99 (mm g (sc s (eL u n (tk u n k)) (tk u n k)) l r)) = _ := e
      have hg := m_great (g := g) (l := l) (r := r) (ms_sc (p := eL u n (tk u n k)) (b := tk u n k) hM) hC
      rw [hg] at e'
      simp only [obs] at e'
      simp only [p12_readFamilyLine, w_gd, mW_f hR (w := 0) (by decide) c3, mW_f hR (w := 8) (by decide) c11, mW_f hR (w := 9) (by decide) c12, mW_t hR (w := 10) (by decide) c13, obs, if_true, one_z, if_false, hg, e', bZ_ib]
  by_cases c14 : th u n (tk u n k) = 14
  · obtain ⟨-, a1, a2⟩ := wd_t (w := 11) (by decide) c14
    have hkN := hTk.mpr a1
    obtain ⟨ok, C1, k1, h1, h2, h3⟩ := jl_num (g := g) (b := tk u n k) (fk := 6) (wk := 5) (lo := 0) (hi := 99) (h' := 100) hkN hN hpe a2 hC (by decide) (lit_hh (m := 99) (by decide)) (by decide) (by decide) rfl (by decide) (fun v x y z => hC.setG (by decide) (by omega) (by omega) (by decide) (fun _ => ⟨by rw [i_toInt (by omega)]; omega, by rw [i_toInt (by omega)]; omega⟩) (by omega))
    refine ⟨ok, C1, k1, fun s l r hI hA => ?_, fun s l r hM hR => ?_, h3⟩
    · obtain ⟨s', C'', e, q⟩ := h1 s l r hI hA
      refine ⟨s', C'', ?_, q⟩
      rw [← e]
      simp only [p3_readLine, rF_gd, rF_next hA, obs, c14]
      rfl
    · obtain ⟨s', p', b', e, q⟩ := h2 s l r hM hR
      refine ⟨s', p', b', ?_, q⟩
      have e' : p12_readNumber (ob g 287) 5 0 99 _ = _ := e
      simp only [p12_readFamilyLine, w_gd, mW_f hR (w := 0) (by decide) c3, mW_f hR (w := 8) (by decide) c11, mW_f hR (w := 9) (by decide) c12, mW_f hR (w := 10) (by decide) c13, mW_t hR (w := 11) (by decide) c14, obs, if_true, one_z, if_false, e', bZ_ib]
  by_cases c15 : th u n (tk u n k) = 15
  · obtain ⟨-, a1, a2⟩ := wd_t (w := 12) (by decide) c15
    have hkN := hTk.mpr a1
    obtain ⟨ok, C1, k1, h1, h2, h3⟩ := jl_num (g := g) (b := tk u n k) (fk := 7) (wk := 6) (lo := 0) (hi := 20) (h' := 21) hkN hN hpe a2 hC (by decide) (lit_hh (m := 20) (by decide)) (by decide) (by decide) rfl (by decide) (fun v x y z => hC.setG (by decide) (by omega) (by omega) (by decide) (by omega) (fun _ => ⟨by rw [i_toInt (by omega)]; omega, by rw [i_toInt (by omega)]; omega⟩))
    refine ⟨ok, C1, k1, fun s l r hI hA => ?_, fun s l r hM hR => ?_, h3⟩
    · obtain ⟨s', C'', e, q⟩ := h1 s l r hI hA
      refine ⟨s', C'', ?_, q⟩
      rw [← e]
      simp only [p3_readLine, rF_gd, rF_next hA, obs, c15]
      rfl
    · obtain ⟨s', p', b', e, q⟩ := h2 s l r hM hR
      refine ⟨s', p', b', ?_, q⟩
      have e' : p12_readNumber (ob g 287) 6 0 20 _ = _ := e
      simp only [p12_readFamilyLine, w_gd, mW_f hR (w := 0) (by decide) c3, mW_f hR (w := 8) (by decide) c11, mW_f hR (w := 9) (by decide) c12, mW_f hR (w := 10) (by decide) c13, mW_f hR (w := 11) (by decide) c14, mW_t hR (w := 12) (by decide) c15, obs, if_true, one_z, if_false, e', bZ_ib]
  by_cases c16 : th u n (tk u n k) = 16
  · obtain ⟨-, a1, a2⟩ := wd_t (w := 13) (by decide) c16
    have hkN := hTk.mpr a1
    obtain ⟨ok, C1, k1, h1, h2, h3⟩ := jl_num (g := g) (b := tk u n k) (fk := 8) (wk := 3) (lo := 0) (hi := 999) (h' := 1000) hkN hN hpe a2 hC (by decide) (lit_hh (m := 999) (by decide)) (by decide) (by decide) rfl (by decide) (fun v x y z => hC.setG (by decide) (by omega) (fun _ => ⟨by rw [i_toInt (by omega)]; omega, by rw [i_toInt (by omega)]; omega⟩) (by decide) (by omega) (by omega))
    refine ⟨ok, C1, k1, fun s l r hI hA => ?_, fun s l r hM hR => ?_, h3⟩
    · obtain ⟨s', C'', e, q⟩ := h1 s l r hI hA
      refine ⟨s', C'', ?_, q⟩
      rw [← e]
      simp only [p3_readLine, rF_gd, rF_next hA, obs, c16]
      rfl
    · obtain ⟨s', p', b', e, q⟩ := h2 s l r hM hR
      refine ⟨s', p', b', ?_, q⟩
      have e' : p12_readNumber (ob g 287) 3 0 999 _ = _ := e
      cases ok with
      | true => simp only [p12_readFamilyLine, w_gd, mW_f hR (w := 0) (by decide) c3, mW_f hR (w := 8) (by decide) c11, mW_f hR (w := 9) (by decide) c12, mW_f hR (w := 10) (by decide) c13, mW_f hR (w := 11) (by decide) c14, mW_f hR (w := 12) (by decide) c15, mW_t hR (w := 13) (by decide) c16, obs, if_true, one_z, if_false, e', ib_t, p12_readFamilyLine_J132, bZ_1]
      | false => simp only [p12_readFamilyLine, w_gd, mW_f hR (w := 0) (by decide) c3, mW_f hR (w := 8) (by decide) c11, mW_f hR (w := 9) (by decide) c12, mW_f hR (w := 10) (by decide) c13, mW_f hR (w := 11) (by decide) c14, mW_f hR (w := 12) (by decide) c15, mW_t hR (w := 13) (by decide) c16, obs, if_true, one_z, if_false, e', ib_f, p12_readFamilyLine_J131, p12_readFamilyLine_J132, bZ_0]
  · refine ⟨false, C, k, fun s l r hI hA => ?_, fun s l r hM hR => ?_, fun h => (by cases h)⟩
    · refine ⟨s, C, ?_, cF.refl, hI, hA, fun h => (by cases h)⟩
      have n3 : (Int32.ofNat (th u n (tk u n k)) = 3) = False := by
        have := rF_eq (c := 3) hA (by decide)
        have e : (Int32.ofNat 3 : Int32) = 3 := rfl
        rw [e] at this
        rw [this]
        exact eq_false c3
      have n11 : (Int32.ofNat (th u n (tk u n k)) = 11) = False := by
        have := rF_eq (c := 11) hA (by decide)
        have e : (Int32.ofNat 11 : Int32) = 11 := rfl
        rw [e] at this
        rw [this]
        exact eq_false c11
      have n12 : (Int32.ofNat (th u n (tk u n k)) = 12) = False := by
        have := rF_eq (c := 12) hA (by decide)
        have e : (Int32.ofNat 12 : Int32) = 12 := rfl
        rw [e] at this
        rw [this]
        exact eq_false c12
      have n13 : (Int32.ofNat (th u n (tk u n k)) = 13) = False := by
        have := rF_eq (c := 13) hA (by decide)
        have e : (Int32.ofNat 13 : Int32) = 13 := rfl
        rw [e] at this
        rw [this]
        exact eq_false c13
      have n14 : (Int32.ofNat (th u n (tk u n k)) = 14) = False := by
        have := rF_eq (c := 14) hA (by decide)
        have e : (Int32.ofNat 14 : Int32) = 14 := rfl
        rw [e] at this
        rw [this]
        exact eq_false c14
      have n15 : (Int32.ofNat (th u n (tk u n k)) = 15) = False := by
        have := rF_eq (c := 15) hA (by decide)
        have e : (Int32.ofNat 15 : Int32) = 15 := rfl
        rw [e] at this
        rw [this]
        exact eq_false c15
      have n16 : (Int32.ofNat (th u n (tk u n k)) = 16) = False := by
        have := rF_eq (c := 16) hA (by decide)
        have e : (Int32.ofNat 16 : Int32) = 16 := rfl
        rw [e] at this
        rw [this]
        exact eq_false c16
      simp only [p3_readLine, rF_gd, rF_next hA, obs, swI, n3, n11, n12, n13, n14, n15, n16, if_false, ite_self, ib_f]
    · refine ⟨s, eL u n (tk u n k), tk u n k, ?_, mF'.refl, hpe, fun h => (by cases h), fun _ => rfl⟩
      simp only [p12_readFamilyLine, w_gd, mW_f hR (w := 0) (by decide) c3, mW_f hR (w := 8) (by decide) c11, mW_f hR (w := 9) (by decide) c12, mW_f hR (w := 10) (by decide) c13, mW_f hR (w := 11) (by decide) c14, mW_f hR (w := 12) (by decide) c15, mW_f hR (w := 13) (by decide) c16, obs, if_true, p12_readFamilyLine_J131, p12_readFamilyLine_J132, bZ_0, ib_f]
end
