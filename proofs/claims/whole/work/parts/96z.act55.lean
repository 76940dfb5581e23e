section
variable {g : Nat} {s s' s0 : tS} {l : tL} {r : Nat → Nat} {n p b q e k N : Nat} {u : Nat → Nat} {C C' : Co} {so ag pa : Int32}
theorem jl_stern {a : Nat} (hC : VC C) (h8 : sz C < 8) (ha : 0 ≤ ag.toInt ∧ ag.toInt < (C.1 4).toInt) (hso : so = 0 ∨ so = 1) (hpa : pa = -1 ∨ ∃ k, k < sz C ∧ pa = Int32.ofNat k) (h1 : a ≤ 100) : JP g n u N (p3_readRest_J29 (ob g 48) (ob g (16 + 6 + sz C))) (p12_readPerson_J110 (ob g 287) (Int32.ofNat (sz C)) so ag pa (Int32.ofNat a)) (FI C so ag pa (Int32.ofNat a) 50 0) C k := by
  have hz : ∀ {x y z : Int32}, sz C < sz (FI C so ag pa x y z) := fun {x y z} => by rw [fi_z hC h8]; omega
  have hb : (Int32.ofNat a = 1000000) = False := eq_false (nm_big (by omega))
  by_cases c1 : th u n (tk u n k) = 9
  · cases ok : inN u n (tk u n (k + 1)) 0 101 with
    | true =>
      obtain ⟨-, -, v2, v3⟩ := in_nu ok
      obtain ⟨k1, k2⟩ := num_sk ok
      obtain ⟨o1, C1, k', hc, hm, hv⟩ := jl_perm (g := g) (n := n) (u := u) (N := N) (k := k + 2) (a := a) (b' := nuV u n (tk u n (k + 1))) hC h8 ha hso hpa h1 (by omega)
      refine ⟨o1, C1, k', fun s l r hI hA => ?_, fun p b hp hs s l r hM hR => ?_, hv⟩
      · obtain ⟨s1, e1, F1, I1, A1⟩ := c_tk_t (g := g) (l := l) (r := r) hA c1 (by decide)
        obtain ⟨s2, e2, F2, I2, A2, e7⟩ := c_tN_t (g := g) (l := l) (r := r) (lo := 0) (hi := 100) A1 (by decide) (lit_hh (m := 100) (by decide)) ok
        have e1' : p3_took (ob g 48) 9 (mm g s l r) = _ := e1
        have e2' : p3_tookNumber (ob g 48) 0 100 (mm g s1 l r) = _ := e2
        have J2 := I2 _ (I1 _ hI)
        have J3 := J2.setP (k := 6) (v := Int32.ofNat (nuV u n (tk u n (k + 1)))) hz (by decide)
        rw [fi_6] at J3
        have F3 : cF s (up2 s2 (16 + 6 + sz C) 6 (Int32.ofNat (nuV u n (tk u n (k + 1))))) := (F1.trans F2).trans (cF.up (by omega))
        obtain ⟨s4, C4, e4, F4, q⟩ := hc _ l r J3 (hA.cF F3 (by rw [up2_ne (by omega)]; exact A2.2.2.1) A2.2.1)
        refine ⟨s4, C4, ?_, F3.trans F4, q⟩
        simp only [p3_readRest_J29, e1', obs, one_z, if_false, e2', rF_I, e7, c_P J2 hz, e4]
      · have e : p12_told (ob g 287) 6 0 100 50 (mm g (sc s p b) l r) = _ := m_told_t (hi := 100) hR hp hs (w := 6) (by decide) (lit_hh (m := 100) (by decide)) c1 ok
        obtain ⟨s', p', b', e2, q⟩ := hm (eD u n (tk u n (k + 1))) (tk u n (k + 1)) (rU_le (tk_le _)) k1 s l r hM hR
        refine ⟨s', p', b', ?_, q⟩
        simp only [p12_readPerson_J110, hb, if_false, e, obs, e2]
    | false =>
      refine ⟨false, C, k + 1, fun s l r hI hA => ?_, fun p b hp hs s l r hM hR => ?_, fun h => (by cases h)⟩
      · obtain ⟨s1, e1, F1, I1, A1⟩ := c_tk_t (g := g) (l := l) (r := r) hA c1 (by decide)
        have e1' : p3_took (ob g 48) 9 (mm g s l r) = _ := e1
        have e2' : p3_tookNumber (ob g 48) 0 100 (mm g s1 l r) = _ := rF_tN_f (lo := 0) (hi := 100) A1 (by decide) (lit_hh (m := 100) (by decide)) ok
        refine ⟨s1, _, ?_, F1, I1 _ hI, A1, fun h => (by cases h)⟩
        simp only [p3_readRest_J29, e1', obs, one_z, if_false, e2', if_true, ib_f]
      · have e : p12_told (ob g 287) 6 0 100 50 (mm g (sc s p b) l r) = _ := m_told_f (hi := 100) hR hp hs (w := 6) (by decide) (lit_hh (m := 100) (by decide)) c1 ok
        refine ⟨s, eD u n (tk u n (k + 1)), tk u n (k + 1), ?_, mF'.refl, rU_le (tk_le _), fun h => (by cases h), fun _ => rfl⟩
        simp only [p12_readPerson_J110, hb, if_false, e, obs, p12_readPerson_J135, p12_readPerson_J159, if_true, ib_f]
  · obtain ⟨o1, C1, k', hc, hm, hv⟩ := jl_perm (g := g) (n := n) (u := u) (N := N) (k := k) (a := a) (b' := 50) hC h8 ha hso hpa h1 (by omega)
    refine ⟨o1, C1, k', fun s l r hI hA => ?_, fun p b hp hs s l r hM hR => ?_, hv⟩
    · have e1' : p3_took (ob g 48) 9 (mm g s l r) = _ := rF_took_f hA (c := 9) (by decide) c1
      obtain ⟨s4, C4, e4, q⟩ := hc s l r hI hA
      refine ⟨s4, C4, ?_, q⟩
      simp only [p3_readRest_J29, e1', obs, if_true, e4]
    · have e : p12_told (ob g 287) 6 0 100 50 (mm g (sc s p b) l r) = _ := m_told_n (h' := 101) (hi := 100) hR hp hs (w := 6) (by decide) c1
      obtain ⟨s', p', b', e2, q⟩ := hm (tk u n k) (tk u n k) (tk_le _) (sk_tk k) s l r hM hR
      have e2' : p12_readPerson_J135 (ob g 287) (Int32.ofNat (sz C)) so ag pa (Int32.ofNat a) 50 _ = _ := e2
      refine ⟨s', p', b', ?_, q⟩
      simp only [p12_readPerson_J110, hb, if_false, e, obs, e2']
def wtQ (g : Nat) (i so ag pa : Int32) (M : mMem) : Option (Int32 × mMem) := (p12_told (ob g 287) 5 0 100 0 M).bind fun q_2 => p12_readPerson_J110 (ob g 287) i so ag pa q_2.1 q_2.2
theorem jl_wants (hC : VC C) (h8 : sz C < 8) (ha : 0 ≤ ag.toInt ∧ ag.toInt < (C.1 4).toInt) (hso : so = 0 ∨ so = 1) (hpa : pa = -1 ∨ ∃ k, k < sz C ∧ pa = Int32.ofNat k) : JP g n u N (p3_readRest (ob g 48) (ob g (16 + 6 + sz C))) (wtQ g (Int32.ofNat (sz C)) so ag pa) (FI C so ag pa 0 50 0) C k := by
  have hz : ∀ {x y z : Int32}, sz C < sz (FI C so ag pa x y z) := fun {x y z} => by rw [fi_z hC h8]; omega
  by_cases c1 : th u n (tk u n k) = 8
  · cases ok : inN u n (tk u n (k + 1)) 0 101 with
    | true =>
      obtain ⟨-, -, v2, v3⟩ := in_nu ok
      obtain ⟨k1, k2⟩ := num_sk ok
      obtain ⟨o1, C1, k', hc, hm, hv⟩ := jl_stern (g := g) (n := n) (u := u) (N := N) (k := k + 2) (a := nuV u n (tk u n (k + 1))) hC h8 ha hso hpa (by omega)
      refine ⟨o1, C1, k', fun s l r hI hA => ?_, fun p b hp hs s l r hM hR => ?_, hv⟩
      · obtain ⟨s1, e1, F1, I1, A1⟩ := c_tk_t (g := g) (l := l) (r := r) hA c1 (by decide)
        obtain ⟨s2, e2, F2, I2, A2, e7⟩ := c_tN_t (g := g) (l := l) (r := r) (lo := 0) (hi := 100) A1 (by decide) (lit_hh (m := 100) (by decide)) ok
        have e1' : p3_took (ob g 48) 8 (mm g s l r) = _ := e1
        have e2' : p3_tookNumber (ob g 48) 0 100 (mm g s1 l r) = _ := e2
        have J2 := I2 _ (I1 _ hI)
        have J3 := J2.setP (k := 5) (v := Int32.ofNat (nuV u n (tk u n (k + 1)))) hz (by decide)
        rw [fi_5] at J3
        have F3 : cF s (up2 s2 (16 + 6 + sz C) 5 (Int32.ofNat (nuV u n (tk u n (k + 1))))) := (F1.trans F2).trans (cF.up (by omega))
        obtain ⟨s4, C4, e4, F4, q⟩ := hc _ l r J3 (hA.cF F3 (by rw [up2_ne (by omega)]; exact A2.2.2.1) A2.2.1)
        refine ⟨s4, C4, ?_, F3.trans F4, q⟩
        simp only [p3_readRest, rF_gd, e1', obs, one_z, if_false, e2', rF_I, e7, c_P J2 hz, e4]
      · have e : p12_told (ob g 287) 5 0 100 0 (mm g (sc s p b) l r) = _ := m_told_t (hi := 100) hR hp hs (w := 5) (by decide) (lit_hh (m := 100) (by decide)) c1 ok
        obtain ⟨s', p', b', e2, q⟩ := hm (eD u n (tk u n (k + 1))) (tk u n (k + 1)) (rU_le (tk_le _)) k1 s l r hM hR
        refine ⟨s', p', b', ?_, q⟩
        simp only [wtQ, e, obs, e2]
    | false =>
      refine ⟨false, C, k + 1, fun s l r hI hA => ?_, fun p b hp hs s l r hM hR => ?_, fun h => (by cases h)⟩
      · obtain ⟨s1, e1, F1, I1, A1⟩ := c_tk_t (g := g) (l := l) (r := r) hA c1 (by decide)
        have e1' : p3_took (ob g 48) 8 (mm g s l r) = _ := e1
        have e2' : p3_tookNumber (ob g 48) 0 100 (mm g s1 l r) = _ := rF_tN_f (lo := 0) (hi := 100) A1 (by decide) (lit_hh (m := 100) (by decide)) ok
        refine ⟨s1, _, ?_, F1, I1 _ hI, A1, fun h => (by cases h)⟩
        simp only [p3_readRest, rF_gd, e1', obs, one_z, if_false, e2', if_true, ib_f]
      · have e : p12_told (ob g 287) 5 0 100 0 (mm g (sc s p b) l r) = _ := m_told_f (hi := 100) hR hp hs (w := 5) (by decide) (lit_hh (m := 100) (by decide)) c1 ok
        refine ⟨s, eD u n (tk u n (k + 1)), tk u n (k + 1), ?_, mF'.refl, rU_le (tk_le _), fun h => (by cases h), fun _ => rfl⟩
        simp only [wtQ, e, obs, p12_readPerson_J110, p12_readPerson_J135, p12_readPerson_J159, if_true, ib_f]
  · obtain ⟨o1, C1, k', hc, hm, hv⟩ := jl_stern (g := g) (n := n) (u := u) (N := N) (k := k) (a := 0) hC h8 ha hso hpa (by omega)
    refine ⟨o1, C1, k', fun s l r hI hA => ?_, fun p b hp hs s l r hM hR => ?_, hv⟩
    · have e1' : p3_took (ob g 48) 8 (mm g s l r) = _ := rF_took_f hA (c := 8) (by decide) c1
      obtain ⟨s4, C4, e4, q⟩ := hc s l r hI hA
      refine ⟨s4, C4, ?_, q⟩
      simp only [p3_readRest, rF_gd, e1', obs, if_true, e4]
    · have e : p12_told (ob g 287) 5 0 100 0 (mm g (sc s p b) l r) = _ := m_told_n (h' := 101) (hi := 100) hR hp hs (w := 5) (by decide) c1
      obtain ⟨s', p', b', e2, q⟩ := hm (tk u n k) (tk u n k) (tk_le _) (sk_tk k) s l r hM hR
      have e2' : p12_readPerson_J110 (ob g 287) (Int32.ofNat (sz C)) so ag pa 0 _ = _ := e2
      refine ⟨s', p', b', ?_, q⟩
      simp only [wtQ, e, obs, e2']
/-! whose child; the class takes the new one in now -/
theorem c_J100 {x : Bool} (hI : Is s 16 C) (h8 : sz C < 8) (hA : ATrF s n u N k) {ok : Bool} {k' : Nat} (hc : CRf g n u N (p3_readRest (ob g 48) (ob g (16 + 6 + sz C))) (FI C (ib (!x)) ag pa 0 50 0) k ok C' k') : ∃ s' C'', p3_readPerson_J100 (ob g 48) (ib x) ag pa (mm g s l r) = some (ib ok, mm g s' l r) ∧ cF s s' ∧ Is s' 16 C'' ∧ ATrF s' n u N k' ∧ (ok = true → C'' = C') := by
  obtain ⟨ea, I2⟩ := c_add' (g := g) (l := l) (r := r) (so := ib (!x)) (ag := ag) (pa := pa) hI h8
  have z := (ad_zc (so := ib (!x)) (ag := ag) (pa := pa) hI.2.1 h8).2
  have F1 : cF s (adS s 16 (sz C) (ib (!x)) ag pa) := fun o j a b => by
    by_cases e : o = 16
    · subst e
      exact adS_b (by omega)
    · exact congrFun (adS_o e (by omega)) j
  have h6 : adS s 16 (sz C) (ib (!x)) ag pa 48 6 = s 48 6 := congrFun (adS_o (by omega) (by omega)) 6
  rw [← fi_0] at I2
  have hz : sz C < sz (FI C (ib (!x)) ag pa 0 50 0) := by
    show sz C < sz (adC C (ib (!x)) ag pa)
    omega
  obtain ⟨s4, C4, e4, F4, q⟩ := hc _ l r I2 (hA.cF F1 (by rw [h6]; exact hA.2.2.1) hA.2.1)
  refine ⟨s4, C4, ?_, F1.trans F4, q⟩
  cases x with
  | true =>
    have ea' : p2_add (ob g 16) 0 ag pa (mm g s l r) = _ := ea
    simp only [p3_readPerson_J100, rF_R8, obs, ib_t, one_z, if_false, p3_readPerson_J118, ea', c_at I2 hz, e4, bZ_ib]
  | false =>
    have ea' : p2_add (ob g 16) 1 ag pa (mm g s l r) = _ := ea
    simp only [p3_readPerson_J100, rF_R8, obs, ib_f, if_true, p3_readPerson_J118, ea', c_at I2 hz, e4, bZ_ib]
def ofP (g : Nat) (x1 v_5 : Int32) (M : mMem) : Option (Int32 × mMem) :=
  (p3_took (ob g 48) 7 M).bind fun q_6 =>
  if q_6.1 = 0 then
    p3_readPerson_J100 (ob g 48) x1 v_5 (-1) q_6.2
  else
    (p3_tookPerson (ob g 48) q_6.2).bind fun q_7 =>
    if q_7.1 = 0 then
      some (0, q_7.2)
    else
      (getI q_7.2 (ob g 48) 4 7).bind fun v_8 =>
      p3_readPerson_J100 (ob g 48) x1 v_5 v_8 q_7.2
theorem jl_of {x : Bool} (hC : VC C) (h8 : sz C < 8) (ha : 0 ≤ ag.toInt ∧ ag.toInt < (C.1 4).toInt) : JP g n u N (ofP g (ib x) ag) (p12_readPerson_J68 (ob g 287) (Int32.ofNat (sz C)) (ib (!x)) ag) C C k := by
  have hso : ib (!x) = 0 ∨ ib (!x) = 1 := ib_01
  have hag : (ag < 0) = False := eq_false (fun h => by have := i_ltI.mp h; have z : (0 : Int32).toInt = 0 := rfl; omega)
  have hh := hh_sz hC.1
  rw [hC.1.1] at hh
  have nm1' : ((-1 : Int32) = 1000000) = False := by decide
  by_cases c1 : th u n (tk u n k) = 7
  · cases ok : inN u n (tk u n (k + 1)) 0 (sz C) with
    | true =>
      obtain ⟨-, -, v2, v3⟩ := in_nu ok
      obtain ⟨k1, k2⟩ := num_sk ok
      have hb : (Int32.ofNat (nuV u n (tk u n (k + 1))) = 1000000) = False := eq_false (nm_big (by omega))
      obtain ⟨o1, C1, k', hc, hm, hv⟩ := jl_wants (g := g) (n := n) (u := u) (N := N) (k := k + 2) (pa := Int32.ofNat (nuV u n (tk u n (k + 1)))) hC h8 ha hso (Or.inr ⟨_, v2, rfl⟩)
      refine ⟨o1, C1, k', fun s l r hI hA => ?_, fun p b hp hs s l r hM hR => ?_, hv⟩
      · obtain ⟨s1, e1, F1, I1, A1⟩ := c_tk_t (g := g) (l := l) (r := r) hA c1 (by decide)
        have e1' : p3_took (ob g 48) 7 (mm g s l r) = _ := e1
        obtain ⟨s2, e2, F2, I2, A2, e7⟩ := c_tP_t (g := g) (l := l) (r := r) (I1 _ hI) A1 ok
        obtain ⟨s4, C4, e4, F4, q⟩ := c_J100 (g := g) (l := l) (r := r) I2 h8 A2 hc
        refine ⟨s4, C4, ?_, (F1.trans F2).trans F4, q⟩
        simp only [ofP, e1', obs, one_z, if_false, e2, rF_I, e7, e4]
      · have e : p12_told (ob g 287) 4 0 (Int32.ofNat (sz C) - 1) (-1) (mm g (sc s p b) l r) = _ := m_told_t hR hp hs (w := 4) (by decide) hh c1 ok
        obtain ⟨s', p', b', e2, q⟩ := hm (eD u n (tk u n (k + 1))) (tk u n (k + 1)) (rU_le (tk_le _)) k1 s l r hM hR
        refine ⟨s', p', b', ?_, q⟩
        rw [← e2]
        simp only [p12_readPerson_J68, hag, if_false, e, obs, hb, wtQ]
    | false =>
      refine ⟨false, C, k + 1, fun s l r hI hA => ?_, fun p b hp hs s l r hM hR => ?_, fun h => (by cases h)⟩
      · obtain ⟨s1, e1, F1, I1, A1⟩ := c_tk_t (g := g) (l := l) (r := r) hA c1 (by decide)
        have e1' : p3_took (ob g 48) 7 (mm g s l r) = _ := e1
        refine ⟨s1, _, ?_, F1, I1 _ hI, A1, fun h => (by cases h)⟩
        simp only [ofP, e1', obs, one_z, if_false, c_tP_f (I1 _ hI) A1 ok, if_true, ib_f]
      · have e : p12_told (ob g 287) 4 0 (Int32.ofNat (sz C) - 1) (-1) (mm g (sc s p b) l r) = _ := m_told_f hR hp hs (w := 4) (by decide) hh c1 ok
        refine ⟨s, eD u n (tk u n (k + 1)), tk u n (k + 1), ?_, mF'.refl, rU_le (tk_le _), fun h => (by cases h), fun _ => rfl⟩
        simp only [p12_readPerson_J68, hag, if_false, e, obs, if_true, p12_readPerson_J110, p12_readPerson_J135, p12_readPerson_J159, ib_f]
  · obtain ⟨o1, C1, k', hc, hm, hv⟩ := jl_wants (g := g) (n := n) (u := u) (N := N) (k := k) (pa := -1) hC h8 ha hso (Or.inl rfl)
    refine ⟨o1, C1, k', fun s l r hI hA => ?_, fun p b hp hs s l r hM hR => ?_, hv⟩
    · have e1' : p3_took (ob g 48) 7 (mm g s l r) = _ := rF_took_f hA (c := 7) (by decide) c1
      obtain ⟨s4, C4, e4, q⟩ := c_J100 (g := g) (l := l) (r := r) hI h8 hA hc
      refine ⟨s4, C4, ?_, q⟩
      simp only [ofP, e1', obs, if_true, e4]
    · have e : p12_told (ob g 287) 4 0 (Int32.ofNat (sz C) - 1) (-1) (mm g (sc s p b) l r) = _ := m_told_n (h' := sz C) hR hp hs (w := 4) (by decide) c1
      obtain ⟨s', p', b', e2, q⟩ := hm (tk u n k) (tk u n k) (tk_le _) (sk_tk k) s l r hM hR
      refine ⟨s', p', b', ?_, q⟩
      rw [← e2]
      simp only [p12_readPerson_J68, hag, if_false, e, obs, nm1', wtQ]
end
