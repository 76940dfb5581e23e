section
variable {g : Nat} {s : tS} {l : tL} {r : Nat → Nat} {b : Nat} {C : Co} {G : Lg} {L : Lw}
theorem kept_v {s1 : tS} {n : Nat} {C1 : Co} (h : MS (cpS (up2 s 287 0 0) 291 0 288 0 445) pC L n s1 C1) (hM : Ms s C) {i j : Nat} (hi : i < sz C) (hj : j < 8) : s1 291 (9 + 17 * i + j) = C.2 i j := by
  have h8 := zc_8 hM.1 hi
  rw [h.2.2.2.2.1 291 (by decide) (by decide), cpS_v, if_pos (by omega), up2_ne (by omega), ← hM.2.2 i j hi (by omega)]
  congr 1
  omega
/-! AGAIN -/
def agR (L : Lw) (y : Bool) (C : Co) : Option Nat := lpx (agF L y C) (fun _ => none) 100 1 C
theorem op_again {x1 : Bool} : Dir g (fun M => p11_again (ob g 0) (ib x1) M) (fun M => p12_again (ob g 287) (ib x1) M) := by
  intro s l r hI
  obtain ⟨C, G, L, n, p, hc, ht, hp, hk, hr⟩ := id hI
  obtain ⟨s1, e1, t1, -⟩ := c_trial (g := g) (l := l) (r := r) hc hr
  have h1 := it_sx (L := fun n' (a : tS) j => p1_firstAsNow_L13 n' (ob g 80) (ib x1) j (mm g a l r)) (R := fun _ a x => ∃ G1, CS s 81 L (sz C) a x G1) (Q := fun B t => ∃ s2, B = some (encB t, mm g s2 l r) ∧ RS s s2) (f := agF L x1 C) (K := fun _ => none) (N := 101) (fun n j a x hj hR => by
      obtain ⟨G1, h1⟩ := hR
      have c : ¬ (100 : Int32) < Int32.ofNat j := by rw [lt100 (by omega)]; omega
      obtain ⟨s2, G2, e2, h2⟩ := cs_ahead (g := g) (l := l) (r := r) (y := x1) hc.2.2.2 h1
      have es := tc_same (g := g) (l := l) (r := r) (cs_2 h2 hc.1.1) h2.1 h2.2.2.2.2.1
      rcases Bool.eq_false_or_eq_true (sameA C (aheadF L x1 x)) with h0 | h0
      · refine Or.inr ⟨some j, by rw [agF, if_pos h0], s2, ?_, cs_rs h2⟩
        simp only [p1_firstAsNow_L13, c, if_false, d_R2, obs, e2, es, h0, ib_t, one_z, encB]
      · refine Or.inl ⟨aheadF L x1 x, s2, by rw [agF, h0]; rfl, ⟨G2, h2⟩, ?_⟩
        simp only [p1_firstAsNow_L13, c, if_false, d_R2, obs, e2, es, h0, ib_f, if_true, i_succ]) (fun n a x hR => by
      obtain ⟨G1, h1⟩ := hR
      have c : (100 : Int32) < Int32.ofNat 101 := by decide
      refine ⟨a, ?_, cs_rs h1⟩
      simp only [p1_firstAsNow_L13, c, if_true, encB]) 100 gF 1 s1 C (by omega) (gF_gt (by omega)) ⟨G, t1⟩
  obtain ⟨s2, e2, r2⟩ := h1
  have hc2 := hc.rs r2
  have h2 := it_sx (L := fun n' (a : tS) j => p12_again_L13 (n' + 1) (ob g 287) (ib x1) (-1) j (mm g a l r)) (R := fun _ a x => MS (cpS (up2 s2 287 0 0) 291 0 288 0 445) pC L (sz C) a x) (Q := fun B t => ∃ s3, B = some (encB t, mm g s3 l r) ∧ RS s2 s3) (f := agF L x1 C) (K := fun _ => none) (N := 101) (fun n j a x hj hR => by
      have c : ¬ (100 : Int32) < Int32.ofNat j := by rw [lt100 (by omega)]; omega
      obtain ⟨s3, e3, h3⟩ := ms_ahead (g := g) (l := l) (r := r) (y := x1) hc2.2.2.2 hR
      have es := tm_same (g := g) (l := l) (r := r) (C := C) (fun i hi => kept_v h3 hc2.1.2.2.1 hi (by decide)) h3.1 h3.2.2.2.1
      rcases Bool.eq_false_or_eq_true (sameA C (aheadF L x1 x)) with h0 | h0
      · refine Or.inr ⟨some j, by rw [agF, if_pos h0], cpS s3 288 0 291 0 445, ?_, (ms_end h3).1⟩
        have fin : p12_again_L13 (n + 1) (ob g 287) (ib x1) (Int32.ofNat j) (Int32.ofNat j + 1) (mm g s3 l r) = some (Int32.ofNat j, mm g (cpS s3 288 0 291 0 445) l r) := by
          by_cases c2 : (100 : Int32) < Int32.ofNat j + 1
          · simp only [p12_again_L13, c2, if_true, p12_again_J48, p12_again_J41, p12_again, m_brings, obs]
          · simp only [p12_again_L13, c2, if_false, nmN (show j < 2147483648 by omega), p12_again_J48, p12_again_J41, p12_again, m_brings, obs]
        rw [p12_again_L13]
        simp only [c, if_false, if_true, eq_self, obs, e3, es, h0, ib_t, one_z, p12_again_J48, p12_again_J41, p12_again, encB]
        exact fin
      · refine Or.inl ⟨aheadF L x1 x, s3, by rw [agF, h0]; rfl, h3, ?_⟩
        rw [p12_again_L13]
        simp only [c, if_false, if_true, eq_self, obs, e3, es, h0, ib_f, p12_again_J48, p12_again_J41, p12_again, i_succ]) (fun n a x hR => by
      have c : (100 : Int32) < Int32.ofNat 101 := by decide
      refine ⟨cpS a 288 0 291 0 445, ?_, (ms_end hR).1⟩
      simp only [p12_again_L13, c, if_true, p12_again_J48, p12_again_J41, p12_again, m_brings, obs, encB]) 100 (gF - 1) 1 (cpS (up2 s2 287 0 0) 291 0 288 0 445) C (by omega) (by decide) (ms_begin hc2)
  obtain ⟨s3, e3, r3⟩ := h2
  refine ⟨encB (agR L x1 C), s2, r, s3, ?_, ?_, (hI.rs r2).rs r3⟩
  · simp only [p11_again, a_gd, a_R14, obs, p1_firstAsNow, d_gd, d_R2, d_R0, e1]
    have e2' : p1_firstAsNow_L13 gF (ob g 80) (ib x1) 1 (mm g s1 l r) = some (encB (agR L x1 C), mm g s2 l r) := e2
    rw [e2', obs]
  · simp only [p12_again, w_gd, w_putI, obs, m_keeps]
    exact e3
/-! OVER -/
def ovF (L : Lw) (C0 : Co) (p i : Nat) (C : Co) : Co ⊕ Option Nat := if C0.2 p 1 < (aheadF L false C).2 p 1 then .inr (some i) else .inl (aheadF L false C)
def ovM (L : Lw) (C0 : Co) (p i : Nat) (C : Co) : Co ⊕ Option Nat := if C0.2 p 1 < C.2 p 1 then .inr (some i) else .inl (aheadF L false C)
theorem ovM_n {C0 : Co} {p i : Nat} (h : ¬ C0.2 p 1 < C.2 p 1) : ovM L C0 p i C = .inl (aheadF L false C) := if_neg h
theorem ovM_p {C0 : Co} {p i : Nat} (h : C0.2 p 1 < C.2 p 1) : ovM L C0 p i C = .inr (some i) := if_pos h
theorem ovF_n {C0 : Co} {p i : Nat} (h : ¬ C0.2 p 1 < (aheadF L false C).2 p 1) : ovF L C0 p i C = .inl (aheadF L false C) := if_neg h
theorem ovF_p {C0 : Co} {p i : Nat} (h : C0.2 p 1 < (aheadF L false C).2 p 1) : ovF L C0 p i C = .inr (some i) := if_pos h
theorem lpx_l {α β : Type} {f : Nat → α → α ⊕ β} {K : α → β} {n i : Nat} {a a' : α} (h : f i a = .inl a') : lpx f K (n + 1) i a = lpx f K n (i + 1) a' := by rw [lpx, h]
theorem lpx_r {α β : Type} {f : Nat → α → α ⊕ β} {K : α → β} {n i : Nat} {a : α} {b : β} (h : f i a = .inr b) : lpx f K (n + 1) i a = b := by rw [lpx, h]
theorem ov_eq {C0 : Co} {p : Nat} : ∀ (k i : Nat) (C : Co), ¬ C0.2 p 1 < C.2 p 1 → lpx (ovM L C0 p) (fun _ => none) (k + 1) i C = lpx (ovF L C0 p) (fun _ => none) k (i + 1) C := by
  intro k
  induction k with
  | zero =>
    intro i C h
    rw [lpx_l (ovM_n h)]
    rfl
  | succ k ih =>
    intro i C h
    rw [lpx_l (ovM_n h)]
    by_cases e : C0.2 p 1 < (aheadF L false C).2 p 1
    · rw [lpx_r (ovM_p e), lpx_r (ovF_p e)]
    · rw [ih (i + 1) _ e, lpx_l (ovF_n e)]
def ovR (L : Lw) (C : Co) (p : Nat) : Option Nat := lpx (ovF L C p) (fun _ => none) 100 1 C
theorem op_over {x1 : Int32} : Op g H_over (fun M => p11_over (ob g 0) x1 M) (fun M => p12_over (ob g 287) x1 M) := by
  refine opP1 (x := x1) (by decide) (fun s l r h => ?_) (fun s l r h => ⟨0, ?_⟩) (fun s l r C G L i hc hr hi ex h => Or.inr ?_)
  · simp only [p11_over, a_gd, h, xb]
  · simp only [p12_over, w_gd, w_putI, obs, h, m_th1, one_z, if_false]
  · subst ex
    obtain ⟨s1, e1, t1, -⟩ := c_trial (g := g) (l := l) (r := r) hc hr
    have h1 := it_sx (L := fun n' (a : tS) j => p1_firstTurn_L13 n' (ob g 80) (Int32.ofNat i) j (mm g a l r)) (R := fun _ a x => ∃ G1, CS s 81 L (sz C) a x G1) (Q := fun B t => ∃ s2, B = some (encB t, mm g s2 l r) ∧ RS s s2) (f := ovF L C i) (K := fun _ => none) (N := 101) (fun n j a x hj hR => by
        obtain ⟨G1, h1⟩ := hR
        have c : ¬ (100 : Int32) < Int32.ofNat j := by rw [lt100 (by omega)]; omega
        obtain ⟨s2, G2, e2, h2⟩ := cs_ahead (g := g) (l := l) (r := r) (y := false) hc.2.2.2 h1
        have e2 : p1_passAhead (ob g 80) (ob g 81) 0 (mm g a l r) = some (mm g s2 l r) := e2
        have hi' : i < sz (aheadF L false x) := by rw [h2.2.2.2.2.1]; exact hi
        have hN := cs_2 h2 hc.1.1
        by_cases h0 : C.2 i 1 < (aheadF L false x).2 i 1
        · refine Or.inr ⟨some j, by rw [ovF, if_pos h0], s2, ?_, cs_rs h2⟩
          simp only [p1_firstTurn_L13, c, if_false, d_R2, d_R0, obs, e2, c_at h2.1 hi', c_p h2.1 hi' (show 1 < 9 by decide), c_at hN hi, c_p hN hi (show 1 < 9 by decide), h0, if_true, encB]
        · refine Or.inl ⟨aheadF L false x, s2, by rw [ovF, if_neg h0], ⟨G2, h2⟩, ?_⟩
          simp only [p1_firstTurn_L13, c, if_false, d_R2, d_R0, obs, e2, c_at h2.1 hi', c_p h2.1 hi' (show 1 < 9 by decide), c_at hN hi, c_p hN hi (show 1 < 9 by decide), h0, i_succ]) (fun n a x hR => by
        obtain ⟨G1, h1⟩ := hR
        have c : (100 : Int32) < Int32.ofNat 101 := by decide
        refine ⟨a, ?_, cs_rs h1⟩
        simp only [p1_firstTurn_L13, c, if_true, encB]) 100 gF 1 s1 C (by omega) (gF_gt (by omega)) ⟨G, t1⟩
    obtain ⟨s2, e2, r2⟩ := h1
    refine ⟨encB (ovR L C i), s2, ?_, r2, fun l1 hc2 hn => ?_⟩
    · simp only [p11_over, a_gd, h, xb, a_R14, obs, p1_firstTurn, d_gd, d_R2, d_R0, e1]
      have e2' : p1_firstTurn_L13 gF (ob g 80) (Int32.ofNat i) 1 (mm g s1 l r) = some (encB (ovR L C i), mm g s2 l r) := e2
      rw [e2', obs]
      rfl
    · have h2 := it_sx (L := fun n' (a : tS) j => p12_over_L28 (n' + 1) (ob g 287) (Int32.ofNat i) (-1) j (mm g a l1 r)) (R := fun _ a x => MS (cpS (up2 s2 287 0 0) 291 0 288 0 445) pC L (sz C) a x) (Q := fun B t => ∃ s3, B = some (encB t, mm g s3 l1 r) ∧ RS s2 s3 ∧ s3 287 0 = 0) (f := ovM L C i) (K := fun _ => none) (N := 101) (fun n j a x hj hR => by
          have c : ¬ (100 : Int32) < Int32.ofNat j := by rw [lt100 (by omega)]; omega
          obtain ⟨s3, e3, h3⟩ := ms_ahead (g := g) (l := l1) (r := r) (y := false) hc2.2.2.2 hR
          have e3 : p12_dayOf (ob g 287) 0 (mm g a l1 r) = some (mm g s3 l1 r) := e3
          have hi' : i < sz x := by rw [hR.2.2.2.1]; exact hi
          have h8 := zc_8 hR.1.1 hi'
          have kv : a 291 (9 + 17 * i + 1) = C.2 i 1 := kept_v hR hc2.1.2.2.1 hi (by decide)
          by_cases h0 : C.2 i 1 < x.2 i 1
          · refine Or.inr ⟨some j, by rw [ovM, if_pos h0], cpS s3 288 0 291 0 445, ?_, ms_end h3⟩
            have fin : p12_over_L28 (n + 1) (ob g 287) (Int32.ofNat i) (Int32.ofNat j) (Int32.ofNat j + 1) (mm g s3 l1 r) = some (Int32.ofNat j, mm g (cpS s3 288 0 291 0 445) l1 r) := by
              by_cases c2 : (100 : Int32) < Int32.ofNat j + 1
              · simp only [p12_over_L28, c2, if_true, p12_over_J75, p12_over_J63, p12_over, m_brings, obs]
              · simp only [p12_over_L28, c2, if_false, nmN (show j < 2147483648 by omega), p12_over_J75, p12_over_J63, p12_over, m_brings, obs]
            rw [p12_over_L28]
            simp only [c, if_false, if_true, eq_self, obs, m_of1 hR.1 hi', w_R4, w_at1, t_ald (show 9 + 17 * i + 1 < 445 by omega), kv, h0, e3, p12_over_J75, p12_over_J63, p12_over, encB]
            exact fin
          · refine Or.inl ⟨aheadF L false x, s3, by rw [ovM, if_neg h0], h3, ?_⟩
            rw [p12_over_L28]
            simp only [c, if_false, if_true, eq_self, obs, m_of1 hR.1 hi', w_R4, w_at1, t_ald (show 9 + 17 * i + 1 < 445 by omega), kv, h0, e3, p12_over_J75, p12_over_J63, p12_over, i_succ]) (fun n a x hR => by
          have c : (100 : Int32) < Int32.ofNat 101 := by decide
          refine ⟨cpS a 288 0 291 0 445, ?_, ms_end hR⟩
          simp only [p12_over_L28, c, if_true, p12_over_J75, p12_over_J63, p12_over, m_brings, obs, encB]) 101 (gF - 1) 0 (cpS (up2 s2 287 0 0) 291 0 288 0 445) C (by omega) (by decide) (ms_begin hc2)
      rw [ov_eq 100 0 C Int32.lt_irrefl] at h2
      obtain ⟨s3, e3, r3⟩ := h2
      refine ⟨s3, ?_, r3⟩
      simp only [p12_over, w_gd, w_putI, obs, hn, m_th0, if_true, m_keeps]
      exact e3
/-! TRIAL -/
theorem op_trial {x1 : Int32} {x2 : Bool} : Op g H_trial (fun M => p11_trial (ob g 0) x1 (ib x2) M) (fun M => p12_trial (ob g 287) x1 (ib x2) M) := by
  intro s l r hI
  obtain ⟨C, G, L, n, p, hc, ht, hp, hk, hr⟩ := id hI
  rcases Bool.eq_false_or_eq_true (inL 0 100 x1) with hx | hx
  · obtain ⟨k, hk, rfl⟩ := inL_nat (n := 100) (by omega) hx
    obtain ⟨s1, e1, t1, -⟩ := c_trial (g := g) (l := l) (r := r) hc hr
    obtain ⟨s2, e2, I2, g2, f2⟩ := c_pass (g := g) (l := l) (r := r) hc.2.2.2 t1.1 t1.2.1 t1.2.2.1 t1.2.2.2.1 (n := k) (by omega)
    have r2 : RS s s2 := RS.fam (Or.inl rfl) (t1.2.2.2.2.2.trans f2) I2.2.2.2.2.2.2
    have hc2 := hc.rs r2
    refine Or.inr ⟨if x2 = true then sp_cr (goF L k (C, G)).2.1 else sp_ages (goF L k (C, G)).2.1, s2, r, ?_, fun l1 => ?_⟩
    · simp only [p11_trial, a_gd, a_lie_t hx, xb, a_R14, obs, p1_tried, d_gd, d_R2, d_R0, e1, e2, ib_z]
      cases x2
      · simp only [if_true, d_R2, obs, tc_ages I2, p1_tried_J42, p1_tried, xr, Option.map_some, Bool.false_eq_true, if_false]
      · simp only [Bool.true_eq_false, if_false, d_R2, obs, tc_crib I2, p1_tried_J42, p1_tried, xr, Option.map_some, if_true]
    · obtain ⟨s3, e3, M3, g3, f3⟩ := m_pass (g := g) (l := l1) (r := r) hc2.2.2.2 (ms_begin hc2 (v := 0)).1 (lg_keep (s := up2 s2 287 0 0) (by
        have h := hc2.1.2.2.2.1
        show LgM (up2 s2 287 0 0 288) G
        rw [show up2 s2 287 0 0 288 = s2 288 from funext fun j => up2_ne (by omega)]
        exact h)) (ms_begin hc2 (v := 0)).2.1 hc2.1.2.2.2.2.1 (n := k) (by omega)
      refine ⟨cpS s3 288 0 291 0 445, ?_, ?_, (hI.rs r2).rs (rs_thr.trans (rs_back f3))⟩
      · simp only [p12_trial, w_gd, w_putI, obs, m_in, hx, ib_t, one_z, if_false, p12_trial_J21, m_th0, if_true, m_keeps, e3, ib_z]
        cases x2
        · simp only [if_true, obs, tm_ages M3, p12_trial_J55, p12_trial_J21, p12_trial, m_brings, Bool.false_eq_true, if_false]
        · simp only [Bool.true_eq_false, if_false, obs, tm_crib M3, p12_trial_J55, p12_trial_J21, p12_trial, m_brings, if_true]
      · rw [cpS_ne (by decide), fw_pL f3, cpS_ne (by decide), up2_eq]
  · refine Or.inl ⟨0, s, r, up2 (up2 s 287 0 0) 287 0 1, 0, ?_, by decide, ?_, up2_eq, hI.rs rs_thr2⟩
    · simp only [p11_trial, a_gd, a_lie_f hx, xb]
    · simp only [p12_trial, w_gd, w_putI, obs, m_in, hx, ib_f, if_true, p12_trial_J21, m_th1, one_z, if_false]
end
