section
variable {g : Nat} {s s' s0 : tS} {l : tL} {r : Nat → Nat} {n p b q e k N : Nat} {u : Nat → Nat} {C C' : Co} {so ag pa : Int32}
theorem hh_rnd (hC : VC C) : ∀ v : Nat, v < 1000 → (C.1 4 - 1 < Int32.ofNat v ↔ ¬ (v < rnd C)) := by
  intro v hv
  have h := rnd_b hC
  rw [rnd_1 hC]
  exact (i_lt (by omega) (by omega)).trans (by omega)
theorem wd_t {w : Nat} (hw : w < 27) (ht : th u n (tk u n k) = 3 + w) : wdB u (tk u n k) (eL u n (tk u n k)) w = true ∧ tk u n k < n ∧ sk u n (eL u n (tk u n k)) = tk u n (k + 1) := by
  have hc := (th_w hw (tk_le k)).mp ht
  obtain ⟨a1, a2, a3⟩ := wd_in hw (tk_le k) hc
  exact ⟨hc, a1, by rw [tk_s a1, a3]⟩
theorem wd_f {w : Nat} (hw : w < 27) (ht : th u n (tk u n k) ≠ 3 + w) : wdB u (tk u n k) (eL u n (tk u n k)) w = false := by
  cases c : wdB u (tk u n k) (eL u n (tk u n k)) w with
  | false => rfl
  | true => exact absurd ((th_w hw (tk_le k)).mpr c) ht
theorem mW_t {w : Nat} (h : RT s n u) (hw : w < 27) (ht : th u n (tk u n k) = 3 + w) : p12_isWord (ob g 287) w (mm g (sc s (eL u n (tk u n k)) (tk u n k)) l r) = some 1 := by
  rw [m_isWord (q := tk u n k) (e := eL u n (tk u n k)) h rU_ge (rU_le (tk_le k)) hw, (wd_t hw ht).1]
  rfl
theorem mW_f {w : Nat} (h : RT s n u) (hw : w < 27) (ht : th u n (tk u n k) ≠ 3 + w) : p12_isWord (ob g 287) w (mm g (sc s (eL u n (tk u n k)) (tk u n k)) l r) = some 0 := by
  rw [m_isWord (q := tk u n k) (e := eL u n (tk u n k)) h rU_ge (rU_le (tk_le k)) hw, wd_f hw ht]
  rfl
theorem m_let (h : RT s n u) (hp : p ≤ n) (hs : sk u n p = q) : p12_letters (ob g 287) (mm g (sc s p b) l r) = some (mm g (sc s (eL u n q) q) l r) := by
  rw [m_letters h hp, hs]
theorem jl_age {x : Bool} (hC : VC C) (h8 : sz C < 8) : JP g n u N (p3_readPerson_J42 (ob g 48) (ib x)) (p12_readPerson_J44 (ob g 287) (Int32.ofNat (sz C)) (ib (!x))) C C k := by
  have u0 : (ib (!x) < 0) = False := by cases x <;> decide
  have hh := hh_rnd hC
  by_cases c1 : th u n (tk u n k) = 6
  · obtain ⟨-, a1, a2⟩ := wd_t (w := 3) (by decide) c1
    cases ok : inN u n (tk u n (k + 1)) 0 (rnd C) with
    | true =>
      obtain ⟨-, -, v2, v3⟩ := in_nu ok
      obtain ⟨k1, k2⟩ := num_sk ok
      have e8 : (Int32.ofNat (nuV u n (tk u n (k + 1))) < 0) = False := eq_false (i_nlt0 (by omega))
      have ha : 0 ≤ (Int32.ofNat (nuV u n (tk u n (k + 1)))).toInt ∧ (Int32.ofNat (nuV u n (tk u n (k + 1)))).toInt < (C.1 4).toInt := by
        have hr := rnd_b hC
        rw [hr.2.2, i_toInt (by omega), i_toInt (by omega)]
        omega
      obtain ⟨o1, C1, k', hc, hm, hv⟩ := jl_of (g := g) (n := n) (u := u) (N := N) (k := k + 2) (x := x) (ag := Int32.ofNat (nuV u n (tk u n (k + 1)))) hC h8 ha
      refine ⟨o1, C1, k', fun s l r hI hA => ?_, fun p b hp hs s l r hM hR => ?_, hv⟩
      · obtain ⟨s1, e1, F1, I1, A1⟩ := c_tk_t (g := g) (l := l) (r := r) hA c1 (by decide)
        have e1' : p3_took (ob g 48) 6 (mm g s l r) = _ := e1
        obtain ⟨s2, e2, F2, I2, A2, e7⟩ := c_tN_t (g := g) (l := l) (r := r) (lo := 0) A1 (by decide) hh ok
        have e2' : p3_tookNumber (ob g 48) 0 (C.1 4 - 1) (mm g s1 l r) = _ := e2
        obtain ⟨s4, C4, e4, F4, q⟩ := hc s2 l r (I2 _ (I1 _ hI)) A2
        refine ⟨s4, C4, ?_, (F1.trans F2).trans F4, q⟩
        rw [← e4]
        simp only [p3_readPerson_J42, e1', obs, one_z, if_false, rF_R8, c_round (I1 _ hI), e2', rF_I, e7, ofP]
      · have e : p12_number (ob g 287) 0 (C.1 4 - 1) _ = _ := m_num_t (g := g) (l := l) (r := r) (p := eL u n (tk u n k)) (b := tk u n k) hR (rU_le (tk_le k)) (lo := 0) (by decide) hh a2 ok
        obtain ⟨s', p', b', e2, q⟩ := hm (eD u n (tk u n (k + 1))) (tk u n (k + 1)) (rU_le (tk_le _)) k1 s l r hM hR
        refine ⟨s', p', b', ?_, q⟩
        rw [← e2]
        simp only [p12_readPerson_J44, u0, if_false, w_R1, obs, m_4 (ms_sc hM), p12_after, w_gd, m_let hR hp hs, mW_t hR (w := 3) (by decide) c1, one_z, e, p12_after_J22]
    | false =>
      refine ⟨false, C, k + 1, fun s l r hI hA => ?_, fun p b hp hs s l r hM hR => ?_, fun h => (by cases h)⟩
      · obtain ⟨s1, e1, F1, I1, A1⟩ := c_tk_t (g := g) (l := l) (r := r) hA c1 (by decide)
        have e1' : p3_took (ob g 48) 6 (mm g s l r) = _ := e1
        have e2' : p3_tookNumber (ob g 48) 0 (C.1 4 - 1) (mm g s1 l r) = _ := rF_tN_f (lo := 0) A1 (by decide) hh ok
        refine ⟨s1, _, ?_, F1, I1 _ hI, A1, fun h => (by cases h)⟩
        simp only [p3_readPerson_J42, e1', obs, one_z, if_false, rF_R8, c_round (I1 _ hI), e2', if_true, p3_readPerson_J68, ib_f]
      · have e : p12_number (ob g 287) 0 (C.1 4 - 1) _ = _ := m_num_f (g := g) (l := l) (r := r) (p := eL u n (tk u n k)) (b := tk u n k) hR (rU_le (tk_le k)) (lo := 0) (by decide) hh a2 ok
        refine ⟨s, eD u n (tk u n (k + 1)), tk u n (k + 1), ?_, mF'.refl, rU_le (tk_le _), fun h => (by cases h), fun _ => rfl⟩
        simp only [p12_readPerson_J44, u0, if_false, w_R1, obs, m_4 (ms_sc hM), p12_after, w_gd, m_let hR hp hs, mW_t hR (w := 3) (by decide) c1, one_z, e, p12_after_J22, p12_readPerson_J68, m1_lt, if_true, ib_f]
  · refine ⟨false, C, k, fun s l r hI hA => ?_, fun p b hp hs s l r hM hR => ?_, fun h => (by cases h)⟩
    · have e1' : p3_took (ob g 48) 6 (mm g s l r) = _ := rF_took_f hA (c := 6) (by decide) c1
      refine ⟨s, _, ?_, cF.refl, hI, hA, fun h => (by cases h)⟩
      simp only [p3_readPerson_J42, e1', obs, if_true, p3_readPerson_J68, ib_f]
    · refine ⟨s, eL u n (tk u n k), tk u n k, ?_, mF'.refl, rU_le (tk_le _), fun h => (by cases h), fun _ => rfl⟩
      simp only [p12_readPerson_J44, u0, if_false, w_R1, obs, m_4 (ms_sc hM), p12_after, w_gd, m_let hR hp hs, mW_f hR (w := 3) (by decide) c1, if_true, p12_after_J22, p12_readPerson_J68, m1_lt, ib_f]
theorem jl_person (hk : k < N) (hp : p ≤ n) (hs : sk u n p = tk u n (k + 1)) (hC : VC C) : JL g n u N (p3_readPerson (ob g 48)) (p12_readPerson (ob g 287)) C k p (tk u n k) := by
  have hz := hC.1
  by_cases h8 : sz C < 8
  · have l8 := lt8_C hz h8
    have n8 : (C.1 0 = 8) = False := by
      rw [hz.1]
      exact eq_false (fun h => by have := (i_eq (a := sz C) (b := 8) (by omega) (by decide)).mp h; omega)
    by_cases c1 : th u n (tk u n (k + 1)) = 4
    · obtain ⟨-, a1, a2⟩ := wd_t (w := 1) (by decide) c1
      obtain ⟨o1, C1, k', hc, hm, hv⟩ := jl_age (g := g) (n := n) (u := u) (N := N) (k := k + 2) (x := true) hC h8
      refine ⟨o1, C1, k', fun s l r hI hA => ?_, fun s l r hM hR => ?_, hv⟩
      · have A1 := hA.go hk
        have I1 : Is (up2 s 48 6 (Int32.ofNat (k + 1))) 16 C := hI.up (o := 48) (by omega)
        have e6 := hA.2.2.1
        obtain ⟨s2, e2, F2, I2, A2⟩ := c_tk_t (g := g) (l := l) (r := r) A1 c1 (by decide)
        have e2' : p3_took (ob g 48) 4 (mm g (up2 s 48 6 (Int32.ofNat (k + 1))) l r) = _ := e2
        obtain ⟨s4, C4, e4, F4, q⟩ := hc s2 l r (I2 _ I1) A2
        have e4' : p3_readPerson_J42 (ob g 48) 1 (mm g s2 l r) = _ := e4
        refine ⟨s4, C4, ?_, ((cF.up (by omega)).trans F2).trans F4, q⟩
        simp only [p3_readPerson, rF_gd, rF_R8, obs, c_n hI, l8, if_true, rF_I, e6, rF_P, i_succ, e2', one_z, if_false, e4']
      · obtain ⟨s', p', b', e2, q⟩ := hm (eL u n (tk u n (k + 1))) (tk u n (k + 1)) (rU_le (tk_le _)) a2 s l r hM hR
        have e2' : p12_readPerson_J44 (ob g 287) (Int32.ofNat (sz C)) 0 _ = _ := e2
        rw [← hz.1] at e2'
        refine ⟨s', p', b', ?_, q⟩
        simp only [p12_readPerson, w_gd, m_people (ms_sc hM), obs, n8, if_false, m_let hR hp hs, mW_t hR (w := 1) (by decide) c1, one_z, e2']
    · by_cases c2 : th u n (tk u n (k + 1)) = 5
      · obtain ⟨-, a1, a2⟩ := wd_t (w := 2) (by decide) c2
        obtain ⟨o1, C1, k', hc, hm, hv⟩ := jl_age (g := g) (n := n) (u := u) (N := N) (k := k + 2) (x := false) hC h8
        refine ⟨o1, C1, k', fun s l r hI hA => ?_, fun s l r hM hR => ?_, hv⟩
        · have A1 := hA.go hk
          have I1 : Is (up2 s 48 6 (Int32.ofNat (k + 1))) 16 C := hI.up (o := 48) (by omega)
          have e6 := hA.2.2.1
          have e2' : p3_took (ob g 48) 4 (mm g (up2 s 48 6 (Int32.ofNat (k + 1))) l r) = _ := rF_took_f A1 (c := 4) (by decide) c1
          obtain ⟨s3, e3, F3, I3, A3⟩ := c_tk_t (g := g) (l := l) (r := r) A1 c2 (by decide)
          have e3' : p3_took (ob g 48) 5 (mm g (up2 s 48 6 (Int32.ofNat (k + 1))) l r) = _ := e3
          obtain ⟨s4, C4, e4, F4, q⟩ := hc s3 l r (I3 _ I1) A3
          have e4' : p3_readPerson_J42 (ob g 48) 0 (mm g s3 l r) = _ := e4
          refine ⟨s4, C4, ?_, ((cF.up (by omega)).trans F3).trans F4, q⟩
          simp only [p3_readPerson, rF_gd, rF_R8, obs, c_n hI, l8, if_true, rF_I, e6, rF_P, i_succ, e2', e3', one_z, if_false, e4']
        · obtain ⟨s', p', b', e2, q⟩ := hm (eL u n (tk u n (k + 1))) (tk u n (k + 1)) (rU_le (tk_le _)) a2 s l r hM hR
          have e2' : p12_readPerson_J44 (ob g 287) (Int32.ofNat (sz C)) 1 _ = _ := e2
          rw [← hz.1] at e2'
          refine ⟨s', p', b', ?_, q⟩
          simp only [p12_readPerson, w_gd, m_people (ms_sc hM), obs, n8, if_false, m_let hR hp hs, mW_f hR (w := 1) (by decide) c1, if_true, mW_t hR (w := 2) (by decide) c2, one_z, e2']
      · refine ⟨false, C, k + 1, fun s l r hI hA => ?_, fun s l r hM hR => ?_, fun h => (by cases h)⟩
        · have A1 := hA.go hk
          have I1 : Is (up2 s 48 6 (Int32.ofNat (k + 1))) 16 C := hI.up (o := 48) (by omega)
          have e6 := hA.2.2.1
          have e2' : p3_took (ob g 48) 4 (mm g (up2 s 48 6 (Int32.ofNat (k + 1))) l r) = _ := rF_took_f A1 (c := 4) (by decide) c1
          have e3' : p3_took (ob g 48) 5 (mm g (up2 s 48 6 (Int32.ofNat (k + 1))) l r) = _ := rF_took_f A1 (c := 5) (by decide) c2
          refine ⟨_, C, ?_, cF.up (by omega), I1, A1, fun h => (by cases h)⟩
          simp only [p3_readPerson, rF_gd, rF_R8, obs, c_n hI, l8, if_true, rF_I, e6, rF_P, i_succ, e2', e3', p3_readPerson_J68, ib_f]
        · refine ⟨s, eL u n (tk u n (k + 1)), tk u n (k + 1), ?_, mF'.refl, rU_le (tk_le _), fun h => (by cases h), fun _ => rfl⟩
          simp only [p12_readPerson, w_gd, m_people (ms_sc hM), obs, n8, if_false, m_let hR hp hs, mW_f hR (w := 1) (by decide) c1, if_true, mW_f hR (w := 2) (by decide) c2, p12_readPerson_J44, m1_lt, p12_readPerson_J68, ib_f]
  · have e8 : sz C = 8 := by have := hz.2; omega
    have c8 : C.1 0 = 8 := by rw [hz.1, e8]; rfl
    have l8 : ((8 : Int32) < 8) = False := by decide
    refine ⟨false, C, k, fun s l r hI hA => ?_, fun s l r hM hR => ?_, fun h => (by cases h)⟩
    · refine ⟨s, C, ?_, cF.refl, hI, hA, fun h => (by cases h)⟩
      simp only [p3_readPerson, rF_gd, rF_R8, obs, c_n hI, c8, l8, if_false, ib_f]
    · refine ⟨s, p, tk u n k, ?_, mF'.refl, hp, fun h => (by cases h), fun _ => rfl⟩
      simp only [p12_readPerson, w_gd, m_people (ms_sc hM), obs, c8, if_true, ib_f]
end
