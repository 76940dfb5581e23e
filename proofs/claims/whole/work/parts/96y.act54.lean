section
variable {g : Nat} {s s' s0 : tS} {l : tL} {r : Nat → Nat} {n p b q e k N : Nat} {u : Nat → Nat} {C C' : Co} {so ag pa : Int32}
theorem at_lt (hA : ATrF s n u N k) {c : Nat} (ht : th u n (tk u n k) = c) (hc : c ≠ 1) : k < N ∧ tk u n k < n := by
  have hl := tk_le (u := u) (n := n) k
  by_cases e : tk u n k = n
  · exact absurd (ht.symm.trans ((th_1 hl).mpr e)) hc
  · have : tk u n k < n := by omega
    exact ⟨hA.tk.1.mpr this, this⟩
theorem c_tk_t {c : Nat} (hA : ATrF s n u N k) (ht : th u n (tk u n k) = c) (hc : c ≠ 1) : ∃ s', p3_took (ob g 48) (Int32.ofNat c) (mm g s l r) = some (1, mm g s' l r) ∧ cF s s' ∧ (∀ C, Is s 16 C → Is s' 16 C) ∧ ATrF s' n u N (k + 1) :=
  ⟨_, rF_took_t hA ht, cF.up (by omega), fun C h => h.up (o := 48) (by omega), hA.go (at_lt hA ht hc).1⟩
theorem c_tN_t {lo h' : Nat} {hi : Int32} (hA : ATrF s n u N k) (hlo : lo < 1000) (hh : ∀ v : Nat, v < 1000 → (hi < Int32.ofNat v ↔ ¬ (v < h'))) (ht : inN u n (tk u n k) lo h' = true) : ∃ s', p3_tookNumber (ob g 48) (Int32.ofNat lo) hi (mm g s l r) = some (1, mm g s' l r) ∧ cF s s' ∧ (∀ C, Is s 16 C → Is s' 16 C) ∧ ATrF s' n u N (k + 1) ∧ s' 48 7 = Int32.ofNat (nuV u n (tk u n k)) := by
  have hk := hA.tk.1.mpr (num_sk ht).2
  have F : cF s (up2 (up2 s 48 7 (Int32.ofNat (nuV u n (tk u n k)))) 48 6 (Int32.ofNat (k + 1))) := (cF.up (by omega)).trans (cF.up (by omega))
  exact ⟨_, rF_tN_t hA hlo hh ht, F, fun C hI => (hI.up (o := 48) (by omega)).up (o := 48) (by omega), hA.cF F up2_eq hk, by rw [up2_ne (by omega), up2_eq]⟩
/-! an optional word with a number, in the reference -/
theorem m_told_n {w h' : Nat} {hi d : Int32} (h : RT s n u) (hp : p ≤ n) (hs : sk u n p = tk u n k) (hw : w < 27) (ht : th u n (tk u n k) ≠ 3 + w) : p12_told (ob g 287) w 0 hi d (mm g (sc s p b) l r) = some (d, mm g (sc s (tk u n k) (tk u n k)) l r) := by
  have e := m_passes (g := g) (l := l) (r := r) (b := b) h hp hw
  rw [hs] at e
  have hf : wdB u (tk u n k) (eL u n (tk u n k)) w = false := by
    cases c : wdB u (tk u n k) (eL u n (tk u n k)) w with
    | false => rfl
    | true => exact absurd ((th_w hw (tk_le k)).mpr c) ht
  rw [hf, if_neg (by decide)] at e
  simp only [p12_told, w_gd, e, ib_f, obs, if_true]
theorem m_told_w {w : Nat} {M : mMem} {hi d : Int32} (h : RT s n u) (hp : p ≤ n) (hs : sk u n p = tk u n k) (hw : w < 27) (ht : th u n (tk u n k) = 3 + w) : tk u n k < n ∧ sk u n (eL u n (tk u n k)) = tk u n (k + 1) ∧ p12_passes (ob g 287) w (mm g (sc s p b) l r) = some (1, mm g (sc s (eL u n (tk u n k)) (tk u n k)) l r) := by
  have hc := (th_w hw (tk_le k)).mp ht
  obtain ⟨a1, a2, a3⟩ := wd_in hw (tk_le k) hc
  have e := m_passes (g := g) (l := l) (r := r) (b := b) h hp hw
  rw [hs, hc, if_pos rfl] at e
  refine ⟨a1, ?_, e⟩
  rw [tk_s a1, a3]
theorem m_told_t {w h' : Nat} {hi d : Int32} (h : RT s n u) (hp : p ≤ n) (hs : sk u n p = tk u n k) (hw : w < 27) (hh : ∀ v : Nat, v < 1000 → (hi < Int32.ofNat v ↔ ¬ (v < h'))) (ht : th u n (tk u n k) = 3 + w) (hin : inN u n (tk u n (k + 1)) 0 h' = true) : p12_told (ob g 287) w 0 hi d (mm g (sc s p b) l r) = some (Int32.ofNat (nuV u n (tk u n (k + 1))), mm g (sc s (eD u n (tk u n (k + 1))) (tk u n (k + 1))) l r) := by
  obtain ⟨a1, a2, a3⟩ := m_told_w (g := g) (l := l) (r := r) (b := b) (M := mm g s l r) (hi := hi) (d := d) h hp hs hw ht
  have e8 : (Int32.ofNat (nuV u n (tk u n (k + 1))) < 0) = False := eq_false (i_nlt0 (by have := (in_nu hin).2.2.2; omega))
  have e : p12_number (ob g 287) 0 hi _ = _ := m_num_t (g := g) (l := l) (r := r) (p := eL u n (tk u n k)) (b := tk u n k) h (rU_le (tk_le k)) (lo := 0) (by decide) hh a2 hin
  simp only [p12_told, w_gd, a3, obs, one_z, if_false, e, e8, p12_told_J31]
theorem m_told_f {w h' : Nat} {hi d : Int32} (h : RT s n u) (hp : p ≤ n) (hs : sk u n p = tk u n k) (hw : w < 27) (hh : ∀ v : Nat, v < 1000 → (hi < Int32.ofNat v ↔ ¬ (v < h'))) (ht : th u n (tk u n k) = 3 + w) (hin : inN u n (tk u n (k + 1)) 0 h' = false) : p12_told (ob g 287) w 0 hi d (mm g (sc s p b) l r) = some (1000000, mm g (sc s (eD u n (tk u n (k + 1))) (tk u n (k + 1))) l r) := by
  obtain ⟨a1, a2, a3⟩ := m_told_w (g := g) (l := l) (r := r) (b := b) (M := mm g s l r) (hi := hi) (d := d) h hp hs hw ht
  have e : p12_number (ob g 287) 0 hi _ = _ := m_num_f (g := g) (l := l) (r := r) (p := eL u n (tk u n k)) (b := tk u n k) h (rU_le (tk_le k)) (lo := 0) (by decide) hh a2 hin
  simp only [p12_told, w_gd, a3, obs, one_z, if_false, e, m1_lt, if_true, p12_told_J31]
/-! the core with one more in it -/
def FI (C : Co) (so ag pa a b c : Int32) : Co := stP (stP (stP (adC C so ag pa) (sz C) 5 a) (sz C) 6 b) (sz C) 7 c
theorem fi_0 : FI C so ag pa 0 50 0 = adC C so ag pa := by
  have e5 : (adC C so ag pa).2 (sz C) 5 = 0 := ad_n
  have e6 : (adC C so ag pa).2 (sz C) 6 = 50 := ad_n
  have e7 : (adC C so ag pa).2 (sz C) 7 = 0 := ad_n
  have k5 : stP (adC C so ag pa) (sz C) 5 0 = adC C so ag pa := by rw [← e5, setP_same]
  have k6 : stP (adC C so ag pa) (sz C) 6 50 = adC C so ag pa := by rw [← e6, setP_same]
  have k7 : stP (adC C so ag pa) (sz C) 7 0 = adC C so ag pa := by rw [← e7, setP_same]
  unfold FI
  rw [k5, k6, k7]
theorem fi_7 {a b c c' : Int32} : stP (FI C so ag pa a b c) (sz C) 7 c' = FI C so ag pa a b c' := setP_two
theorem fi_6 {a b c b' : Int32} : stP (FI C so ag pa a b c) (sz C) 6 b' = FI C so ag pa a b' c := by
  unfold FI
  rw [setP_comm (show ¬ (sz C = sz C ∧ 7 = 6) by omega), setP_two]
theorem fi_5 {a b c a' : Int32} : stP (FI C so ag pa a b c) (sz C) 5 a' = FI C so ag pa a' b c := by
  unfold FI
  rw [setP_comm (show ¬ (sz C = sz C ∧ 7 = 5) by omega), setP_comm (show ¬ (sz C = sz C ∧ 6 = 5) by omega), setP_two]
theorem fi_z {a b c : Int32} (hC : VC C) (h8 : sz C < 8) : sz (FI C so ag pa a b c) = sz C + 1 := (ad_zc (so := so) (ag := ag) (pa := pa) hC.1 h8).2
theorem fi_vc {a b c : Nat} (hC : VC C) (h8 : sz C < 8) (ha : 0 ≤ ag.toInt ∧ ag.toInt < (C.1 4).toInt) (hso : so = 0 ∨ so = 1) (hpa : pa = -1 ∨ ∃ k, k < sz C ∧ pa = Int32.ofNat k) (h1 : a ≤ 100) (h2 : b ≤ 100) (h3 : c ≤ 9) : VC (FI C so ag pa (Int32.ofNat a) (Int32.ofNat b) (Int32.ofNat c)) := by
  have v1 : VC (stP (adC C so ag pa) (sz C) 5 (Int32.ofNat a)) := (hC.ad h8 ha hso hpa).setP (by omega) (by omega) (by omega) (by omega) (by omega) (fun _ => ⟨by rw [i_toInt (by omega)]; omega, by rw [i_toInt (by omega)]; omega⟩) (by omega) (by omega) (by omega)
  have v2 : VC (stP (stP (adC C so ag pa) (sz C) 5 (Int32.ofNat a)) (sz C) 6 (Int32.ofNat b)) := v1.setP (by omega) (by omega) (by omega) (by omega) (by omega) (fun _ => ⟨by rw [i_toInt (by omega)]; omega, by rw [i_toInt (by omega)]; omega⟩) (by omega) (by omega) (by omega)
  exact v2.setP (by omega) (by omega) (by omega) (by omega) (by omega) (by omega) (fun _ => ⟨by rw [i_toInt (by omega)]; omega, by rw [i_toInt (by omega)]; omega⟩) (by omega) (by omega)
/-- the reference writes all of the new one at once -/
theorem m_J159 {a b' c : Int32} (hM : Ms s C) (h8 : sz C < 8) (hc : c ≠ 1000000) : ∃ s', p12_readPerson_J159 (ob g 287) (Int32.ofNat (sz C)) so ag pa a b' c (mm g (sc s p b) l r) = some (1, mm g (sc s' p b) l r) ∧ mF' s s' ∧ Ms s' (FI C so ag pa a b' c) := by
  have M0 : Ms (sc s p b) C := ms_sc hM
  have M1 := bn_Ms (so := so) (ag := ag) (pa := pa) M0 h8
  have z := (ad_zc (so := so) (ag := ag) (pa := pa) hM.1 h8).2
  have M2 := M1.setP (i := sz C) (k := 5) (v := a) (by omega) (by decide)
  have M3 := M2.setP (i := sz C) (k := 6) (v := b') (show sz C < sz (adC C so ag pa) by omega) (by decide)
  have M4 := M3.setP (i := sz C) (k := 7) (v := c) (show sz C < sz (adC C so ag pa) by omega) (by decide)
  have fw := bn_Fw (s := sc s p b) (so := so) (ag := ag) (pa := pa) h8
  have hcf : (c = 1000000) = False := eq_false hc
  have o : ∀ o j, ¬ (o = 288 ∧ j < 145 ∧ j ≠ 2 ∧ j ≠ 7) → up2 (up2 (up2 (bnS (sc s p b) (sz C) so ag pa) 288 (9 + 17 * sz C + 5) a) 288 (9 + 17 * sz C + 6) b') 288 (9 + 17 * sz C + 7) c o j = sc s p b o j := by
    intro o j h
    rw [up2_ne (by omega), up2_ne (by omega), up2_ne (by omega)]
    by_cases e : o = 288
    · subst e
      exact bnS_k (by omega) (by omega)
    · exact congrFun (bnS_o e) j
  refine ⟨up2 (up2 (up2 (bnS (sc s p b) (sz C) so ag pa) 288 (9 + 17 * sz C + 5) a) 288 (9 + 17 * sz C + 6) b') 288 (9 + 17 * sz C + 7) c, ?_, fun o' j x y => by rw [o o' j x, sc_o y], M4⟩
  rw [sc_id (p := p) (b := b) ((o 287 10 (by omega)).trans sc_10) ((o 287 12 (by omega)).trans sc_12)]
  simp only [p12_readPerson_J159, hcf, if_false, m_born h8, obs, w_R1, w_at5, w_at6, w_at7, m_astP h8 (show 5 < 17 by decide), m_astP h8 (show 6 < 17 by decide), m_astP h8 (show 7 < 17 by decide)]
/-- as JL, but the class has the new one in already -/
def JP (g n : Nat) (u : Nat → Nat) (N : Nat) (P Q : mMem → Option (Int32 × mMem)) (Cc Cm : Co) (k : Nat) : Prop := ∃ ok C' k', CRf g n u N P Cc k ok C' k' ∧ (∀ p b, p ≤ n → sk u n p = tk u n k → MRf g n u Q Cm p b ok C' k') ∧ (ok = true → VC C')
theorem nm_big {v : Nat} (h : v < 1000) : Int32.ofNat v ≠ 1000000 := fun e => by
  have := (i_eq (a := v) (b := 1000000) (by omega) (by decide)).mp e
  omega
theorem jl_perm {a b' : Nat} (hC : VC C) (h8 : sz C < 8) (ha : 0 ≤ ag.toInt ∧ ag.toInt < (C.1 4).toInt) (hso : so = 0 ∨ so = 1) (hpa : pa = -1 ∨ ∃ k, k < sz C ∧ pa = Int32.ofNat k) (h1 : a ≤ 100) (h2 : b' ≤ 100) : JP g n u N (p3_readRest_J58 (ob g 48) (ob g (16 + 6 + sz C))) (p12_readPerson_J135 (ob g 287) (Int32.ofNat (sz C)) so ag pa (Int32.ofNat a) (Int32.ofNat b')) (FI C so ag pa (Int32.ofNat a) (Int32.ofNat b') 0) C k := by
  have hz : ∀ {x y z : Int32}, sz C < sz (FI C so ag pa x y z) := fun {x y z} => by rw [fi_z hC h8]; omega
  have hb : (Int32.ofNat b' = 1000000) = False := eq_false (nm_big (by omega))
  by_cases c1 : th u n (tk u n k) = 10
  · cases ok : inN u n (tk u n (k + 1)) 0 10 with
    | true =>
      obtain ⟨-, -, v2, v3⟩ := in_nu ok
      obtain ⟨k1, k2⟩ := num_sk ok
      refine ⟨true, FI C so ag pa (Int32.ofNat a) (Int32.ofNat b') (Int32.ofNat (nuV u n (tk u n (k + 1)))), k + 2, fun s l r hI hA => ?_, fun p b hp hs s l r hM hR => ?_, fun _ => fi_vc hC h8 ha hso hpa h1 h2 (by omega)⟩
      · obtain ⟨s1, e1, F1, I1, A1⟩ := c_tk_t (g := g) (l := l) (r := r) hA c1 (by decide)
        obtain ⟨s2, e2, F2, I2, A2, e7⟩ := c_tN_t (g := g) (l := l) (r := r) (lo := 0) (hi := 9) A1 (by decide) (lit_hh (m := 9) (by decide)) ok
        have e1' : p3_took (ob g 48) 10 (mm g s l r) = _ := e1
        have e2' : p3_tookNumber (ob g 48) 0 9 (mm g s1 l r) = _ := e2
        have J2 := I2 _ (I1 _ hI)
        have J3 := J2.setP (k := 7) (v := Int32.ofNat (nuV u n (tk u n (k + 1)))) hz (by decide)
        rw [fi_7] at J3
        have F3 : cF s (up2 s2 (16 + 6 + sz C) 7 (Int32.ofNat (nuV u n (tk u n (k + 1))))) := (F1.trans F2).trans (cF.up (by omega))
        refine ⟨_, _, ?_, F3, J3, hA.cF F3 (by rw [up2_ne (by omega)]; exact A2.2.2.1) A2.2.1, fun _ => rfl⟩
        simp only [p3_readRest_J58, e1', obs, one_z, if_false, e2', rF_I, e7, c_P J2 hz, p3_readRest_J87, ib_t]
      · have e : p12_told (ob g 287) 7 0 9 0 (mm g (sc s p b) l r) = _ := m_told_t (hi := 9) hR hp hs (w := 7) (by decide) (lit_hh (m := 9) (by decide)) c1 ok
        obtain ⟨s', e2, F, M'⟩ := m_J159 (g := g) (l := l) (r := r) (so := so) (ag := ag) (pa := pa) (a := Int32.ofNat a) (b' := Int32.ofNat b') (p := eD u n (tk u n (k + 1))) (b := tk u n (k + 1)) hM h8 (nm_big v3)
        refine ⟨s', eD u n (tk u n (k + 1)), tk u n (k + 1), ?_, F, rU_le (tk_le _), fun _ => ⟨M', k1⟩, fun h => (by cases h)⟩
        simp only [p12_readPerson_J135, hb, if_false, e, obs, e2, ib_t]
    | false =>
      refine ⟨false, C, k + 1, fun s l r hI hA => ?_, fun p b hp hs s l r hM hR => ?_, fun h => (by cases h)⟩
      · obtain ⟨s1, e1, F1, I1, A1⟩ := c_tk_t (g := g) (l := l) (r := r) hA c1 (by decide)
        have e1' : p3_took (ob g 48) 10 (mm g s l r) = _ := e1
        have e2' : p3_tookNumber (ob g 48) 0 9 (mm g s1 l r) = _ := rF_tN_f (lo := 0) (hi := 9) A1 (by decide) (lit_hh (m := 9) (by decide)) ok
        refine ⟨s1, _, ?_, F1, I1 _ hI, A1, fun h => (by cases h)⟩
        simp only [p3_readRest_J58, e1', obs, one_z, if_false, e2', if_true, ib_f]
      · have e : p12_told (ob g 287) 7 0 9 0 (mm g (sc s p b) l r) = _ := m_told_f (hi := 9) hR hp hs (w := 7) (by decide) (lit_hh (m := 9) (by decide)) c1 ok
        refine ⟨s, eD u n (tk u n (k + 1)), tk u n (k + 1), ?_, mF'.refl, rU_le (tk_le _), fun h => (by cases h), fun _ => rfl⟩
        simp only [p12_readPerson_J135, hb, if_false, e, obs, p12_readPerson_J159, if_true, ib_f]
  · refine ⟨true, FI C so ag pa (Int32.ofNat a) (Int32.ofNat b') 0, k, fun s l r hI hA => ?_, fun p b hp hs s l r hM hR => ?_, fun _ => fi_vc hC h8 ha hso hpa h1 h2 (c := 0) (by omega)⟩
    · have e1' : p3_took (ob g 48) 10 (mm g s l r) = _ := rF_took_f hA (c := 10) (by decide) c1
      refine ⟨s, _, ?_, cF.refl, hI, hA, fun _ => rfl⟩
      simp only [p3_readRest_J58, e1', obs, if_true, p3_readRest_J87, ib_t]
    · have e : p12_told (ob g 287) 7 0 9 0 (mm g (sc s p b) l r) = _ := m_told_n (h' := 10) (hi := 9) hR hp hs (w := 7) (by decide) c1
      obtain ⟨s', e2, F, M'⟩ := m_J159 (g := g) (l := l) (r := r) (so := so) (ag := ag) (pa := pa) (a := Int32.ofNat a) (b' := Int32.ofNat b') (c := 0) (p := tk u n k) (b := tk u n k) hM h8 (by decide)
      refine ⟨s', tk u n k, tk u n k, ?_, F, tk_le _, fun _ => ⟨M', sk_tk k⟩, fun h => (by cases h)⟩
      simp only [p12_readPerson_J135, hb, if_false, e, obs, e2, ib_t]
end
