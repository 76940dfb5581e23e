/-! questions of days ahead -/
def inL (lo hi x : Int32) : Bool := decide (¬ x < lo ∧ ¬ hi < x)
def sp_ages (C : Co) : Int32 := iter (fun i x => x + C.2 i 0) (sz C) 0
theorem bt_tab : ∀ m, m < 256 → ∀ i, i < 8 → Int32.ofNat m ||| bt i = Int32.ofNat (m ||| 2 ^ i) := by decide +kernel
theorem ntz_tab : ∀ m, m < 256 → m ≠ 0 → pJ6_numberOfTrailingZeros (Int32.ofNat m) mNil = some (Int32.ofNat (nth (fun i => m.testBit i) 8 0 0)) := by decide +kernel
theorem ntz_mem {x : Int32} {M : mMem} : pJ6_numberOfTrailingZeros x M = pJ6_numberOfTrailingZeros x mNil := rfl
theorem bits_iter {p : Nat → Prop} [∀ i, Decidable (p i)] : ∀ n, n ≤ 8 → ∃ m, m < 2 ^ n ∧ iter (fun i x => if p i then x ||| bt i else x) n 0 = Int32.ofNat m ∧ ∀ j, m.testBit j = (decide (j < n) && decide (p j)) := by
  intro n
  induction n with
  | zero => intro _; exact ⟨0, by decide, rfl, fun j => by simp⟩
  | succ n ih =>
    intro hn
    obtain ⟨m, h1, h2, h3⟩ := ih (by omega)
    have h256 : m < 256 := Nat.lt_of_lt_of_le h1 (Nat.pow_le_pow_right (by decide) (show n ≤ 8 by omega))
    have hlt : m < 2 ^ (n + 1) := Nat.lt_of_lt_of_le h1 (Nat.pow_le_pow_right (by decide) (by omega))
    by_cases e : p n
    · refine ⟨m ||| 2 ^ n, Nat.or_lt_two_pow hlt (Nat.pow_lt_pow_right (by decide) (by omega)), ?_, fun j => ?_⟩
      · simp only [iter, e, if_true]
        rw [h2, bt_tab m h256 n (by omega)]
      · rw [Nat.testBit_or, h3, Nat.testBit_two_pow]
        by_cases ej : n = j
        · subst ej
          simp [e]
        · have : (j < n + 1) = (j < n) := propext (by omega)
          simp [ej, this]
    · refine ⟨m, hlt, ?_, fun j => ?_⟩
      · simp only [iter, e, if_false]
        exact h2
      · rw [h3]
        by_cases ej : j = n
        · subst ej
          simp [e]
        · have : (j < n + 1) = (j < n) := propext (by omega)
          simp [this]
section
variable {g : Nat} {s : tS} {l : tL} {r : Nat → Nat} {b : Nat} {C : Co} {G : Lg} {L : Lw}
theorem a_lie_t {x lo hi : Int32} (h : inL lo hi x = true) : p11_mustLie x lo hi (mm g s l r) = some (.inr ()) := by
  have h2 := of_decide_eq_true h
  simp only [p11_mustLie, h2.1, h2.2, if_false, xr, Option.map_some]
theorem a_lie_f {x lo hi : Int32} (h : inL lo hi x = false) : p11_mustLie x lo hi (mm g s l r) = some (.inl (0, mm g s l r)) := by
  have h2 := of_decide_eq_false h
  by_cases e : x < lo
  · simp only [p11_mustLie, e, if_true, p11_mustLie_J10, p11_mustLie, thr, mm_X]
  · have e2 : hi < x := Decidable.not_not.mp (fun hc => h2 ⟨e, hc⟩)
    simp only [p11_mustLie, e, e2, if_true, if_false, p11_mustLie_J10, p11_mustLie, thr, mm_X]
theorem m_in {x lo hi : Int32} : p12_in x lo hi (mm g s l r) = some (ib (inL lo hi x)) := by
  unfold p12_in inL
  by_cases e : x < lo
  · simp [e, p12_in_J15, p12_in_J14, p12_in, bZ_0, ib_f]
  · by_cases e2 : hi < x
    · simp [e, e2, p12_in_J15, p12_in_J14, p12_in, bZ_0, ib_f]
    · simp [e, e2, p12_in_J15, p12_in_J14, p12_in, bZ_1, ib_t]
theorem inL_nat {x : Int32} {n : Nat} (hn : n < 2147483648) (h : inL 0 (Int32.ofNat n) x = true) : ∃ k, k ≤ n ∧ x = Int32.ofNat k := by
  have h2 := of_decide_eq_true h
  have h3 : ¬ x.toInt < 0 := fun hc => h2.1 (i_ltI.mpr hc)
  have h4 : ¬ (Int32.ofNat n).toInt < x.toInt := fun hc => h2.2 (i_ltI.mpr hc)
  rw [i_toInt hn] at h4
  refine ⟨x.toInt.toNat, by omega, ?_⟩
  apply i_ext
  rw [i_toInt (by omega)]
  omega
theorem tc_ages (h : Is s b C) : p2_agesTogether (ob g b) (mm g s l r) = some (sp_ages C) := by
  rw [p2_agesTogether, c_gd h]
  refine it_up (fun n a i => p2_agesTogether_L4 (mm g s l r) n (ob g b) a i) (sz C) _ some ?_ ?_ gF 0 (sz_gF h.2.1)
  · intro n i a hi
    simp only [p2_agesTogether_L4, obs, c_n h, zc_yes h.2.1 hi, if_true, c_at h hi, c_p h hi (show 0 < 9 by decide), i_succ]
  · intro n a
    simp only [p2_agesTogether_L4, obs, c_n h, zc_no h.2.1, if_false]
theorem all_tab : ∀ n, n ≤ 8 → ∀ i, i < n → hasb (((1 : Int32) <<< (Int32.ofNat n &&& 31)) - 1) i = true := by decide +kernel
theorem tm_ages (h : Ms s C) : p12_agesOfAll (ob g 287) (mm g s l r) = some (sp_ages C) := by
  have key : p12_agesOf (ob g 287) (((1 : Int32) <<< (C.1 0 &&& 31)) - 1) (mm g s l r) = some (sp_ages C) := by
    rw [p12_agesOf, w_gd]
    refine it_up (fun n a i => p12_agesOf_L4 (mm g s l r) n (ob g 287) (((1 : Int32) <<< (C.1 0 &&& 31)) - 1) a i) (sz C) _ some ?_ ?_ gF 0 (sz_gF h.1)
    · intro n i a hi
      have hb : hasb (((1 : Int32) <<< (C.1 0 &&& 31)) - 1) i = true := by
        rw [zc_n h.1]
        exact all_tab (sz C) h.1.2 i hi
      simp only [p12_agesOf_L4, obs, m_people h, zc_yes h.1 hi, if_true, m_has, hb, ib_t, one_z, if_false, m_of0 h hi, p12_agesOf_J31, p12_agesOf, i_succ]
    · intro n a
      simp only [p12_agesOf_L4, obs, m_people h, zc_no h.1, if_false]
  simp only [p12_agesOfAll, w_gd, m_people h, obs, key]
/-- the class's trial family is begun -/
theorem c_trial (hc : Core s C G L) (hr : Rest s) : ∃ s1, p2_take (ob g 81) (ob g 2) (mm g s l r) = some (mm g s1 l r) ∧ CS s 81 L (sz C) s1 C G ∧ Is s1 2 C := by
  obtain ⟨s1, e1, I1, g1, f1⟩ := c_take (g := g) (l := l) (r := r) (d := 81) (c := 2) (by decide) (by decide) hc.1.1 hc.1.2.1 hr.2.1
  have f2 : Fr (inF 81) s s1 := f1.mono (fun o ho => Or.inl ho)
  exact ⟨s1, e1, ⟨I1, g1, hc.2.1.frF (by decide) f2, hc.1.2.2.2.2.1, rfl, f2⟩, hc.1.1.fr f2 (fun o ho => by unfold inF at ho; omega)⟩
theorem cs_2 {s1 : tS} {n : Nat} {C1 : Co} {G1 : Lg} {Cn : Co} (h : CS s 81 L n s1 C1 G1) (h2 : Is s 2 Cn) : Is s1 2 Cn := h2.fr h.2.2.2.2.2 (fun o ho => by unfold inF at ho; omega)
theorem cs_rs {s1 : tS} {n : Nat} {C1 : Co} {G1 : Lg} (h : CS s 81 L n s1 C1 G1) : RS s s1 := RS.fam (Or.inl rfl) h.2.2.2.2.2 h.1.2.2.2.2.2.2
theorem cs_ahead {s1 : tS} {n : Nat} {C1 : Co} {G1 : Lg} {y : Bool} (hV : VL L) (h : CS s 81 L n s1 C1 G1) : ∃ s2 G2, p1_passAhead (ob g 80) (ob g 81) (ib y) (mm g s1 l r) = some (mm g s2 l r) ∧ CS s 81 L n s2 (aheadF L y C1) G2 := by
  obtain ⟨hI, hg, hL, hC, hn, hf⟩ := h
  obtain ⟨s2, G2, e, I2, g2, f2⟩ := c_ahead (g := g) (l := l) (r := r) (y := y) hV hI hg hL hC
  have ok := aheadF_ok (y := y) hV hC
  exact ⟨s2, G2, e, I2, g2, hL.frF hI.1 f2, ok.1, ok.2.trans hn, hf.trans f2⟩
theorem ms_ahead {s1 : tS} {n : Nat} {C1 : Co} {y : Bool} (hV : VL L) (h : MS s pC L n s1 C1) : ∃ s2, p12_dayOf (ob g 287) (ib y) (mm g s1 l r) = some (mm g s2 l r) ∧ MS s pC L n s2 (aheadF L y C1) := by
  obtain ⟨hM, hL, hC, hn, hf⟩ := h
  obtain ⟨s2, e, M2, f2⟩ := m_ahead (g := g) (l := l) (r := r) (y := y) hV hM hL hC
  have ok := aheadF_ok (y := y) hV hC
  exact ⟨s2, e, M2, hL.fm hV (f2.mono (fun i hi => pCL hi)), ok.1, ok.2.trans hn, hf.trans f2⟩
/-- the reference's world is kept, then changed -/
theorem ms_begin (hc : Core s C G L) {v : Int32} : MS (cpS (up2 s 287 0 v) 291 0 288 0 445) pC L (sz C) (cpS (up2 s 287 0 v) 291 0 288 0 445) C := ⟨ms_keep (m287 hc.1.2.2.1), lms_keep (l287 hc.2.2.1), hc.1.2.2.2.2.1, rfl, Fw.refl⟩
theorem ms_end {s1 : tS} {n : Nat} {C1 : Co} (h : MS (cpS (up2 s 287 0 0) 291 0 288 0 445) pC L n s1 C1) : RS s (cpS s1 288 0 291 0 445) ∧ cpS s1 288 0 291 0 445 287 0 = 0 := by
  have hf := h.2.2.2.2
  refine ⟨rs_thr.trans (rs_back (hf.mono (fun i hi => pCL hi))), ?_⟩
  rw [cpS_ne (by decide), fw_pL hf, cpS_ne (by decide), up2_eq]
/-! AHEAD -/
def aheadN (L : Lw) (y : Bool) (n : Nat) (C : Co) : Co := itF (fun _ C => aheadF L y C) n 0 C
theorem tc_aheadN {k : Nat} {y : Bool} {i : Nat} (hk : k ≤ 100) (hc : Core s C G L) (hr : Rest s) (hi : i < sz C) : ∃ s1, p1_ageAhead (ob g 80) (Int32.ofNat i) (Int32.ofNat k) (ib y) (mm g s l r) = some ((aheadN L y k C).2 i 0, mm g s1 l r) ∧ RS s s1 := by
  obtain ⟨s1, e1, t1, -⟩ := c_trial (g := g) (l := l) (r := r) hc hr
  have := it_sf (L := fun n' (a : tS) j => p1_ageAhead_L14 n' (ob g 80) (Int32.ofNat i) (Int32.ofNat k) (ib y) j (mm g a l r)) (R := fun _ a x => ∃ G1, CS s 81 L (sz C) a x G1) (f := fun _ C => aheadF L y C) (Q := fun B x => ∃ s2, B = some (x.2 i 0, mm g s2 l r) ∧ RS s s2) (N := k) (fun n j a x hj hR => by
      obtain ⟨G1, h1⟩ := hR
      obtain ⟨s2, G2, e2, h2⟩ := cs_ahead (g := g) (l := l) (r := r) (y := y) hc.2.2.2 h1
      have c : Int32.ofNat j < Int32.ofNat k := (i_lt (by omega) (by omega)).mpr hj
      refine ⟨s2, ⟨G2, h2⟩, ?_⟩
      simp only [p1_ageAhead_L14, c, if_true, d_R2, obs, e2, i_succ]) (fun n a x hR => by
      obtain ⟨G1, h1⟩ := hR
      have hi' : i < sz x := by rw [h1.2.2.2.2.1]; exact hi
      refine ⟨a, ?_, cs_rs h1⟩
      simp only [p1_ageAhead_L14, Int32.lt_irrefl, if_false, d_R2, obs, c_at h1.1 hi', c_p h1.1 hi' (show 0 < 9 by decide)]) k gF 0 s1 C (by omega) (gF_gt (by omega)) ⟨G, t1⟩
  obtain ⟨s2, e2, h2⟩ := this
  refine ⟨s2, ?_, h2⟩
  simp only [p1_ageAhead, d_gd, d_R2, d_R0, obs, e1]
  exact e2
theorem op_ahead {x1 x2 : Int32} {x3 : Bool} : Op g H_ahead (fun M => p11_ahead (ob g 0) x1 x2 (ib x3) M) (fun M => p12_ahead (ob g 287) x1 x2 (ib x3) M) := by
  refine opP1 (x := x1) (by decide) (fun s l r h => ?_) (fun s l r h => ⟨0, ?_⟩) (fun s l r C G L i hc hr hi ex h => ?_)
  · simp only [p11_ahead, a_gd, h, xb]
  · simp only [p12_ahead, w_gd, w_putI, obs, h, m_th1, one_z, if_false, p12_ahead_J41, p12_ahead_J34, p12_ahead]
  · subst ex
    rcases Bool.eq_false_or_eq_true (inL 0 100 x2) with hx | hx
    · obtain ⟨k, hk, rfl⟩ := inL_nat (n := 100) (by omega) hx
      obtain ⟨s1, e1, r1⟩ := tc_aheadN (g := g) (l := l) (r := r) (y := x3) hk hc hr hi
      refine Or.inr ⟨(aheadN L x3 k C).2 i 0, s1, ?_, r1, fun l1 hc1 h2 => ?_⟩
      · simp only [p11_ahead, a_gd, h, xb, a_lie_t hx, a_R14, obs, e1, xr, Option.map_some]
      · have := it_sf (L := fun n' (a : tS) j => p12_ahead_L50 n' (ob g 287) (Int32.ofNat i) (Int32.ofNat k) (ib x3) j (mm g a l1 r)) (R := fun _ a x => MS (cpS (up2 s1 287 0 0) 291 0 288 0 445) pC L (sz C) a x) (f := fun _ C => aheadF L x3 C) (Q := fun B x => ∃ s2, B = some (x.2 i 0, mm g s2 l1 r) ∧ RS s1 s2 ∧ s2 287 0 = 0) (N := k) (fun n j a x hj hR => by
            obtain ⟨s2, e2, h3⟩ := ms_ahead (g := g) (l := l1) (r := r) (y := x3) hc1.2.2.2 hR
            have c : Int32.ofNat j < Int32.ofNat k := (i_lt (by omega) (by omega)).mpr hj
            refine ⟨s2, h3, ?_⟩
            simp only [p12_ahead_L50, c, if_true, obs, e2, i_succ]) (fun n a x hR => by
            have hi' : i < sz x := by rw [hR.2.2.2.1]; exact hi
            obtain ⟨q1, q2⟩ := ms_end hR
            refine ⟨cpS a 288 0 291 0 445, ?_, q1, q2⟩
            simp only [p12_ahead_L50, Int32.lt_irrefl, if_false, obs, m_of0 hR.1 hi', m_brings]) k gF 0 (cpS (up2 s1 287 0 0) 291 0 288 0 445) C (by omega) (gF_gt (by omega)) (ms_begin hc1)
        obtain ⟨s2, e2, h3⟩ := this
        refine ⟨s2, ?_, h3⟩
        simp only [p12_ahead, w_gd, w_putI, obs, h2, m_th0, if_true, m_in, hx, ib_t, one_z, if_false, p12_ahead_J34, m_keeps]
        exact e2
    · refine Or.inl ⟨0, ?_, by decide, 0, up2 (up2 s 287 0 0) 287 0 2, ?_, rs_thr2, up2_eq⟩
      · simp only [p11_ahead, a_gd, h, xb, a_lie_f hx]
      · simp only [p12_ahead, w_gd, w_putI, obs, m_nob_t (m287 hc.1.2.2.1 (v := 0)) (inR_of hc.1.1.2.1 hi), m_th0, m_th1, if_true, m_in, hx, ib_f, one_z, if_false, p12_ahead_J41, p12_ahead_J34, p12_ahead]
end
