section
variable {g : Nat} {s : tS} {l : tL} {r : Nat → Nat} {C : Co} {G : Lg} {L : Lw}
/-- the world's row may be written over with the same -/
theorem inv_pC {s' : tS} (hI : INV s r) (hc : Core s C G L) (hM : Ms s' C) (hL : LMs s' L) (h1 : ∀ o k, o ≠ 288 → ¬ scr o k → s' o k = s o k) (h2 : ∀ k, ¬ pC k → s' 288 k = s 288 k) (h3 : s' 18 = s 18 ∧ s' 83 = s 83 ∧ s' 98 = s 98) : INV s' r := by
  obtain ⟨C0, G0, L0, n, p, -, ht, hp, hk, hr⟩ := hI
  have A : ∀ o, o ≠ 288 → (∀ k, ¬ scr o k) → s' o = s o := fun o a b => funext fun k => h1 o k a (b k)
  have f2 : Fr (fun o => o < 2 ∨ 16 ≤ o) s s' := fun o ho => A o (by omega) (fun k => by unfold scr; omega)
  have f3 : Fr (fun o => o < 30 ∨ 37 ≤ o) s s' := fun o ho => A o (by omega) (fun k => by unfold scr; omega)
  refine ⟨C, G, L, n, p, ⟨⟨hc.1.1.fr f2 (fun o ho => by omega), hc.1.2.1.fr f2 (by omega) (by omega), hM, hc.1.2.2.2.1.c7 (fun j hj hj' => h2 j (by unfold pC; omega)), hc.1.2.2.2.2⟩, hc.2.1.fr f3 (fun o ho => by omega), hL, hc.2.2.2⟩, ht.fr (h1 0 1 (by omega) (by unfold scr; omega)) (h1 287 9 (by omega) (by unfold scr; omega)) (A 1 (by decide) (fun k => by unfold scr; omega)) (A 293 (by decide) (fun k => by unfold scr; omega)), hp.fr (h1 0 10 (by omega) (by unfold scr; omega)) (h1 287 7 (by omega) (by unfold scr; omega)) (h2 2 (by unfold pC; omega)) (fun o ho => A o (by unfold inP at ho; omega) (fun k => by unfold inP at ho; unfold scr; omega)) (A 292 (by decide) (fun k => by unfold scr; omega)), hk.fr (h1 0 13 (by omega) (by unfold scr; omega)) (h1 287 6 (by omega) (by unfold scr; omega)) (fun o a b => A o (by omega) (fun k => by unfold scr; omega)) (A 289 (by decide) (fun k => by unfold scr; omega)), hr.fr h3.1 h3.2.1 h3.2.2 (h1 0 2 (by omega) (by unfold scr; omega)) (h1 287 14 (by omega) (by unfold scr; omega)) (h1 48 3 (by omega) (by unfold scr; omega)) (h1 52 3 (by omega) (by unfold scr; omega))⟩
theorem inv_mbs {s' : tS} {X : Bf} (hI : INV s r) (hc : Core s C G L) (h : MBs L C (up2 s 287 0 0) s' X) : INV s' r ∧ s' 287 0 = 0 := by
  obtain ⟨hM, hL, -, h1, h2⟩ := h
  refine ⟨inv_pC hI hc hM hL (fun o k a b => ?_) (fun k hk => ?_) ⟨?_, ?_, ?_⟩, ?_⟩
  · rw [h1 o k a (by unfold scr at b; omega) (by unfold scr at b; unfold mQ; omega), up2_ne (by unfold scr at b; omega)]
  · rw [h2 k hk, up2_ne (by omega)]
  · exact funext fun k => by rw [h1 18 k (by decide) (by decide) (by unfold mQ; omega), up2_ne (by omega)]
  · exact funext fun k => by rw [h1 83 k (by decide) (by decide) (by unfold mQ; omega), up2_ne (by omega)]
  · exact funext fun k => by rw [h1 98 k (by decide) (by decide) (by unfold mQ; omega), up2_ne (by omega)]
  · rw [h1 287 0 (by decide) (by decide) (by unfold mQ; omega), up2_eq]
theorem rest_of (hI : INV s r) : Rest s := by
  obtain ⟨C0, G0, L0, n, p, -, -, -, -, hr⟩ := hI
  exact hr
theorem m_noAge {x : Int32} (h : Ms s C) : p12_noAge (ob g 287) x (mm g s l r) = some (ib (!inL 0 (C.1 4 - 1) x)) := by
  simp only [p12_noAge, w_gd, w_R1, obs, m_4 h, m_in, ib_z]
  cases inL 0 (C.1 4 - 1) x with
  | false => rw [if_pos rfl, p12_noAge_J21, bZ_1, obs]; rfl
  | true => rw [if_neg (by decide), p12_noAge_J21, bZ_0, obs]; rfl
theorem rnd_1 (hC : VC C) : C.1 4 - 1 = Int32.ofNat (rnd C - 1) := by
  have := rnd_b hC
  rw [this.2.2, i_sub1 (by omega) (by omega)]
theorem op_fewest {x1 x2 : Int32} : Op g H_fewest (fun M => p11_fewest (ob g 0) x1 x2 M) (fun M => p12_fewest (ob g 287) x1 x2 M) := by
  refine opP2 (x := x1) (by decide) (fun s l r h => ?_) (fun s l r h => ⟨0, ?_⟩) (fun s l r C G L i hI hc hi ex h hn => ?_)
  · simp only [p11_fewest, a_gd, h, xb]
  · simp only [p12_fewest, w_gd, w_putI, obs, h, m_th1, one_z, if_false, p12_fewest_J42, p12_fewest_J31, p12_fewest]
  · subst ex
    have hC := hc.1.2.2.2.2.1
    have hR := rnd_b hC
    have h1 := hc.1.1
    have MA := m287 hc.1.2.2.1 (v := 0)
    obtain ⟨a, haR, ha⟩ := age_nat hC hi
    rcases Bool.eq_false_or_eq_true (inL 0 (C.1 4 - 1) x2) with hx | hx
    · have hx' := hx
      rw [rnd_1 hC] at hx'
      obtain ⟨k, hk, rfl⟩ := inL_nat (by omega) hx'
      obtain ⟨s1, e1, r1⟩ := c_steps (g := g) (l := l) (r := r) hc (rest_of hI) hi ha haR (x := k) (by omega)
      have hc1 := hc.rs r1
      refine Or.inr ⟨encB ((fulX L C i a).1 k), s1, r, ?_, fun l1 => ?_⟩
      · simp only [p11_fewest, a_gd, h, xb, a_R3, obs, c_round h1, a_lie_t hx, a_R15, e1, xr, Option.map_some]
      · have M1 := m287 hc1.1.2.2.1 (v := 0)
        obtain ⟨s2, e2, h2⟩ := m_looks (g := g) (l := l1) (r := r) (m := 1000000) (by omega) M1 (l287 hc1.2.2.1) hc.2.2.2 hC hi ha haR
        have e2 : p12_looksRound (ob g 287) (Int32.ofNat i) 1000000 (mm g (up2 s1 287 0 0) l1 r) = some (mm g s2 l1 r) := e2
        rw [lp_same hc.2.2.2 hC hi (by omega) 100 0 _ (bK_0 haR hR.2.1)] at h2
        obtain ⟨q1, q2⟩ := inv_mbs (hI.rs r1) hc1 h2
        have v : s2 296 k = encB ((fulX L C i a).1 k) := h2.2.2.1.1 k (by omega)
        refine ⟨s2, ?_, q2, q1⟩
        simp only [p12_fewest, w_gd, w_putI, obs, hn _ _ _ M1, m_th0, if_true, m_noAge M1, hx, Bool.not_true, ib_f, p12_toAge, e2, w_R18, h0_ld (show k < 99 by omega), v, p12_toAge_J40, p12_fewest_J42]
    · refine Or.inl ⟨0, ?_, by decide, 0, up2 (up2 s 287 0 0) 287 0 2, ?_, rs_thr2, up2_eq⟩
      · simp only [p11_fewest, a_gd, h, xb, a_R3, obs, c_round h1, a_lie_f hx]
      · simp only [p12_fewest, w_gd, w_putI, obs, hn _ _ _ MA, m_th0, if_true, m_noAge MA, hx, Bool.not_false, ib_t, m_th1, one_z, if_false, p12_fewest_J42, p12_fewest_J31, p12_fewest]
theorem op_first {x1 x2 : Int32} : Op g H_first (fun M => p11_first (ob g 0) x1 x2 M) (fun M => p12_first (ob g 287) x1 x2 M) := by
  refine opP2 (x := x1) (by decide) (fun s l r h => ?_) (fun s l r h => ⟨0, ?_⟩) (fun s l r C G L i hI hc hi ex h hn => ?_)
  · simp only [p11_first, a_gd, h, xb]
  · simp only [p12_first, w_gd, w_putI, obs, h, m_th1, one_z, if_false, p12_first_J42, p12_first_J31, p12_first]
  · subst ex
    have hC := hc.1.2.2.2.2.1
    have hR := rnd_b hC
    have h1 := hc.1.1
    have MA := m287 hc.1.2.2.1 (v := 0)
    obtain ⟨a, haR, ha⟩ := age_nat hC hi
    rcases Bool.eq_false_or_eq_true (inL 0 (C.1 4 - 1) x2) with hx | hx
    · have hx' := hx
      rw [rnd_1 hC] at hx'
      obtain ⟨k, hk, rfl⟩ := inL_nat (by omega) hx'
      obtain ⟨s1, e1, r1⟩ := c_first (g := g) (l := l) (r := r) hc (rest_of hI) hi ha haR (x := k) (by omega)
      have hc1 := hc.rs r1
      refine Or.inr ⟨firV (fulX L C i a) k, s1, r, ?_, fun l1 => ?_⟩
      · simp only [p11_first, a_gd, h, xb, a_R3, obs, c_round h1, a_lie_t hx, a_R15, e1, xr, Option.map_some]
      · have M1 := m287 hc1.1.2.2.1 (v := 0)
        obtain ⟨s2, e2, h2⟩ := m_looks (g := g) (l := l1) (r := r) (m := 1000000) (by omega) M1 (l287 hc1.2.2.1) hc.2.2.2 hC hi ha haR
        have e2 : p12_looksRound (ob g 287) (Int32.ofNat i) 1000000 (mm g (up2 s1 287 0 0) l1 r) = some (mm g s2 l1 r) := e2
        rw [lp_same hc.2.2.2 hC hi (by omega) 100 0 _ (bK_0 haR hR.2.1)] at h2
        obtain ⟨q1, q2⟩ := inv_mbs (hI.rs r1) hc1 h2
        have k9 : k < 99 := by omega
        have v : s2 296 k = encB ((fulX L C i a).1 k) := h2.2.2.1.1 k k9
        obtain ⟨s1', e1', h1', b1'⟩ := c_from (g := g) (l := l) (r := r) hc (rest_of hI) hi ha haR
        refine ⟨s2, ?_, q2, q1⟩
        unfold firV
        cases hX : (fulX L C i a).1 k with
        | none =>
          rw [hX] at v
          have v : s2 296 k = -1 := v
          simp only [p12_first, w_gd, w_putI, obs, hn _ _ _ M1, m_th0, if_true, m_noAge M1, hx, Bool.not_true, ib_f, p12_toAge, e2, one_z, if_false, w_R18, h0_ld k9, v, p12_toAge_J40, p12_first_J42]
        | some d =>
          rw [hX] at v
          have v : s2 296 k = Int32.ofNat d := v
          have hd := (b1'.2.2.1 k d hX).2
          have w : s2 297 k = (fulX L C i a).2.1 k := h2.2.2.1.2.1 k k9 (by show (fulX L C i a).1 k ≠ none; rw [hX]; exact Option.some_ne_none d)
          have fin : p12_first (ob g 287) (Int32.ofNat i) (Int32.ofNat k) (mm g s1 l1 r) = some ((fulX L C i a).2.1 k, mm g s2 l1 r) := by
            simp only [p12_first, w_gd, w_putI, obs, hn _ _ _ M1, m_th0, if_true, m_noAge M1, hx, Bool.not_true, ib_f, p12_toAge, e2, one_z, if_false, w_R18, w_R19, h0_ld k9, h1_ld k9, v, w, nmN (show d < 2147483648 by omega), p12_toAge_J40, p12_first_J42]
          show p12_first (ob g 287) (Int32.ofNat i) (Int32.ofNat k) (mm g s1 l1 r) = some ((if d = 0 then -1 else (fulX L C i a).2.1 k), mm g s2 l1 r)
          rw [fin]
          by_cases e : d = 0
          · subst e
            rw [if_pos rfl, b1'.2.2.2.1 k hX]
          · rw [if_neg e]
    · refine Or.inl ⟨0, ?_, by decide, 0, up2 (up2 s 287 0 0) 287 0 2, ?_, rs_thr2, up2_eq⟩
      · simp only [p11_first, a_gd, h, xb, a_R3, obs, c_round h1, a_lie_f hx]
      · simp only [p12_first, w_gd, w_putI, obs, hn _ _ _ MA, m_th0, if_true, m_noAge MA, hx, Bool.not_false, ib_t, m_th1, one_z, if_false, p12_first_J42, p12_first_J31, p12_first]
theorem allM_0 {a m : Nat} : allM m (fdF a 0 (-1) e0X) := allM_fd (fun b d h => by cases h) (Nat.zero_le m)
theorem op_can {x1 x2 : Int32} : Op g H_can (fun M => p11_can (ob g 0) x1 x2 M) (fun M => p12_can (ob g 287) x1 x2 M) := by
  refine opP2 (x := x1) (by decide) (fun s l r h => ?_) (fun s l r h => ⟨0, ?_⟩) (fun s l r C G L i hI hc hi ex h hn => ?_)
  · simp only [p11_can, a_gd, h, xb]
  · simp only [p12_can, w_gd, w_putI, obs, h, m_th1, one_z, if_false, p12_can_J41, p12_can_J34, p12_can]
  · subst ex
    have hC := hc.1.2.2.2.2.1
    have hR := rnd_b hC
    have h1 := hc.1.1
    have MA := m287 hc.1.2.2.1 (v := 0)
    obtain ⟨a, haR, ha⟩ := age_nat hC hi
    rcases Bool.eq_false_or_eq_true (inL 0 20 x2) with hx | hx
    · obtain ⟨k, hk, rfl⟩ := inL_nat (n := 20) (by omega) hx
      obtain ⟨s1, e1, r1⟩ := c_within (g := g) (l := l) (r := r) hc (rest_of hI) hi ha haR hk
      have hc1 := hc.rs r1
      refine Or.inr ⟨Int32.ofNat (cnt (leM k (fulX L C i a)) 99 0), s1, r, ?_, fun l1 => ?_⟩
      · simp only [p11_can, a_gd, h, xb, obs, a_lie_t hx, a_R15, e1, xr, Option.map_some]
      · have M1 := m287 hc1.1.2.2.1 (v := 0)
        obtain ⟨s2, e2, h2⟩ := m_looks (g := g) (l := l1) (r := r) (m := k) (by omega) M1 (l287 hc1.2.2.1) hc.2.2.2 hC hi ha haR
        obtain ⟨q1, q2⟩ := inv_mbs (hI.rs r1) hc1 h2
        have v : s2 287 21 = Int32.ofNat (cnt (leM k (fulX L C i a)) 99 0) := by
          rw [h2.2.2.1.2.2.2, lp_can hc.2.2.2 hC hi 100 0 _ (bK_0 haR hR.2.1) allM_0]
          rfl
        refine ⟨s2, ?_, q2, q1⟩
        simp only [p12_can, w_gd, w_putI, obs, hn _ _ _ M1, m_th0, if_true, m_in, hx, ib_t, one_z, if_false, p12_can_J34, e2, w_getI, v]
    · refine Or.inl ⟨0, ?_, by decide, 0, up2 (up2 s 287 0 0) 287 0 2, ?_, rs_thr2, up2_eq⟩
      · simp only [p11_can, a_gd, h, xb, obs, a_lie_f hx]
      · simp only [p12_can, w_gd, w_putI, obs, hn _ _ _ MA, m_th0, if_true, m_in, hx, ib_f, p12_can_J34, m_th1, one_z, if_false, p12_can_J41, p12_can_J34, p12_can]
end
