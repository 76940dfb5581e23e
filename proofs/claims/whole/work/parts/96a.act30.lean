section
variable {g : Nat} {s : tS} {l : tL} {r : Nat → Nat} {C : Co} {G : Lg} {L : Lw} {n : Nat}
/-! SAID -/
theorem inv_pN {s' : tS} (hI : INV s r) (hc : Core s C G L) (hM : Ms s' C) (hL : LMs s' L) (h1 : ∀ o k, o ≠ 288 → ¬ scr o k → s' o k = s o k) (h2 : ∀ k, k < 1294 → ¬ pC k → s' 288 k = s 288 k) (h3 : Nob s' 16 ∧ Nob s' 81 ∧ Nob s' 96) : INV s' r := by
  obtain ⟨C0, G0, L0, n, p, -, ht, hp, hk, hr⟩ := hI
  have A : ∀ o, o ≠ 288 → (∀ k, ¬ scr o k) → s' o = s o := fun o a b => funext fun k => h1 o k a (b k)
  have f2 : Fr (fun o => o < 2 ∨ 16 ≤ o) s s' := fun o ho => A o (by omega) (fun k => by unfold scr; omega)
  have f3 : Fr (fun o => o < 30 ∨ 37 ≤ o) s s' := fun o ho => A o (by omega) (fun k => by unfold scr; omega)
  refine ⟨C, G, L, n, p, ⟨⟨hc.1.1.fr f2 (fun o ho => by omega), hc.1.2.1.fr f2 (by omega) (by omega), hM, hc.1.2.2.2.1.c7 (fun j hj hj' => h2 j (by omega) (by unfold pC; omega)), hc.1.2.2.2.2⟩, hc.2.1.fr f3 (fun o ho => by omega), hL, hc.2.2.2⟩, ht.fr (h1 0 1 (by omega) (by unfold scr; omega)) (h1 287 9 (by omega) (by unfold scr; omega)) (A 1 (by decide) (fun k => by unfold scr; omega)) (A 293 (by decide) (fun k => by unfold scr; omega)), hp.fr (h1 0 10 (by omega) (by unfold scr; omega)) (h1 287 7 (by omega) (by unfold scr; omega)) (h2 2 (by omega) (by unfold pC; omega)) (fun o ho => A o (by unfold inP at ho; omega) (fun k => by unfold inP at ho; unfold scr; omega)) (A 292 (by decide) (fun k => by unfold scr; omega)), hk.fr (h1 0 13 (by omega) (by unfold scr; omega)) (h1 287 6 (by omega) (by unfold scr; omega)) (fun o a b => A o (by omega) (fun k => by unfold scr; omega)) (A 289 (by decide) (fun k => by unfold scr; omega)), h3.1, h3.2.1, h3.2.2, ?_, ?_, ?_⟩
  · rw [h1 0 2 (by omega) (by unfold scr; omega), h1 287 14 (by omega) (by unfold scr; omega)]
    exact hr.2.2.2.1
  · rw [h1 48 3 (by omega) (by unfold scr; omega)]
    exact hr.2.2.2.2.1
  · rw [h1 52 3 (by omega) (by unfold scr; omega)]
    exact hr.2.2.2.2.2
def tp0 (s : tS) : tS := up2 s 0 1 0
def tpM (s : tS) : tS := up2 (tp0 s) 287 9 0
theorem tpM_k {o k : Nat} (a : ¬ (o = 0 ∧ k = 1)) (b : ¬ (o = 287 ∧ k = 9)) : tpM s o k = s o k := by
  unfold tpM tp0
  rw [up2_ne b, up2_ne a]
theorem tpM_o {o : Nat} (a : o ≠ 0) (b : o ≠ 287) : tpM s o = s o := funext fun k => tpM_k (by omega) (by omega)
theorem core_tpM (hc : Core s C G L) : Core (tpM s) C G L := ⟨hc.1.rs (fun o a b => tpM_o (by omega) (by omega)) (fun j _ => by rw [tpM_o (by decide) (by decide)]), hc.2.rs (fun o a b => tpM_o (by omega) (by omega)) (fun j a b => by rw [tpM_o (by decide) (by decide)])⟩
theorem inv_tpM (hI : INV s r) : INV (tpM s) r := by
  obtain ⟨C, G, L, n, p, hc, ht, hp, hk, hr⟩ := hI
  refine ⟨C, G, L, 0, p, core_tpM hc, ⟨Nat.zero_le _, ?_, up2_eq, fun j hj => absurd hj (Nat.not_lt_zero j)⟩, hp.fr (tpM_k (by omega) (by omega)) (tpM_k (by omega) (by omega)) (tpM_k (by omega) (by omega)) (fun o ho => tpM_o (by unfold inP at ho; omega) (by unfold inP at ho; omega)) (tpM_o (by decide) (by decide)), hk.fr (tpM_k (by omega) (by omega)) (tpM_k (by omega) (by omega)) (fun o a b => tpM_o (by omega) (by omega)) (tpM_o (by decide) (by decide)), hr.fr (tpM_o (by decide) (by decide)) (tpM_o (by decide) (by decide)) (tpM_o (by decide) (by decide)) (tpM_k (by omega) (by omega)) (tpM_k (by omega) (by omega)) (tpM_k (by omega) (by omega)) (tpM_k (by omega) (by omega))⟩
  show up2 (up2 s 0 1 0) 287 9 0 0 1 = _
  rw [up2_ne (by omega), up2_eq]
  rfl
theorem core_tp0 (hc : Core s C G L) : Core (tp0 s) C G L := by
  have e : ∀ o, o ≠ 0 → tp0 s o = s o := fun o a => funext fun k => up2_ne (by omega)
  exact ⟨hc.1.rs (fun o a b => e o (by omega)) (fun j _ => by rw [e 288 (by decide)]), hc.2.rs (fun o a b => e o (by omega)) (fun j a b => by rw [e 288 (by decide)])⟩
def usS (s : tS) (n : Nat) : tS := up2 (up2 (up2 (up2 s 287 0 0) 287 11 (Int32.ofNat n)) 287 9 0) 287 10 0
theorem usS_o {o : Nat} (h : o ≠ 287) : usS s n o = s o := by
  funext k
  unfold usS
  rw [up2_ne (by omega), up2_ne (by omega), up2_ne (by omega), up2_ne (by omega)]
theorem usS_k {k : Nat} (h : k ≠ 0 ∧ k ≠ 9 ∧ k ≠ 10 ∧ k ≠ 11) : usS s n 287 k = s 287 k := by
  unfold usS
  rw [up2_ne (by omega), up2_ne (by omega), up2_ne (by omega), up2_ne (by omega)]
theorem usS_9 : usS s n 287 9 = 0 := by
  unfold usS
  rw [up2_ne (by omega), up2_eq]
theorem usS_11 : usS s n 287 11 = Int32.ofNat n := by
  unfold usS
  rw [up2_ne (by omega), up2_ne (by omega), up2_eq]
theorem usS_0 : usS s n 287 0 = 0 := by
  unfold usS
  rw [up2_ne (by omega), up2_ne (by omega), up2_ne (by omega), up2_eq]
theorem m_uses (h9 : s 287 9 = Int32.ofNat n) : p12_uses (ob g 287) (mm g s l r) = some (mm g (usS s n) l r) := by
  have e : up2 s 287 0 0 287 9 = Int32.ofNat n := by rw [up2_ne (by omega), h9]
  simp only [p12_uses, w_gd, w_putI, w_getI, obs, e]
  rfl
theorem us_inv {s2 s3 : tS} (hI : INV s r) (hc : Core s C G L) (hr : RS (tp0 s) s2) (hM : Ms s3 C) (hL : LMs s3 L) (h1 : ∀ o k, o ≠ 288 → o ≠ 295 → o ≠ 299 → ¬ (o = 287 ∧ k = 0) → s3 o k = usS s2 n o k) (h2 : ∀ k, ¬ pC k → s3 288 k = s2 288 k) : INV s3 r := by
  have hR : Rest s := rest_of hI
  have q : ∀ b, b = 18 ∨ b = 83 ∨ b = 98 → s3 b = s2 b := fun b hb => by
    rw [← usS_o (s := s2) (n := n) (o := b) (by omega)]
    exact funext fun k => h1 b k (by omega) (by omega) (by omega) (by omega)
  have z : ∀ b, b = 16 ∨ b = 81 ∨ b = 96 → Nob s b → Nob (tp0 s) b := fun b hb h => h.rs (funext fun k => up2_ne (by omega))
  refine inv_pN (inv_tpM hI) (core_tpM hc) hM hL (fun o k a b => ?_) (fun k c hk => ?_) ⟨(hr.2.1 (z 16 (by omega) hR.1)).rs (q 18 (by omega)), (hr.2.2.1 (z 81 (by omega) hR.2.1)).rs (q 83 (by omega)), (hr.2.2.2 (z 96 (by omega) hR.2.2.1)).rs (q 98 (by omega))⟩
  · rw [h1 o k a (by unfold scr at b; omega) (by unfold scr at b; omega) (by unfold scr at b; omega)]
    by_cases c : o = 287
    · subst c
      by_cases c9 : k = 9
      · subst c9
        rw [usS_9]
        exact (up2_eq).symm
      · rw [usS_k (by unfold scr at b; omega), hr.1 287 k b, tpM_k (by omega) (by omega)]
        exact up2_ne (by omega)
    · rw [usS_o c, hr.1 o k b]
      unfold tpM
      rw [up2_ne (by omega)]
  · rw [h2 k hk, hr.1 288 k (by unfold scr; omega), tpM_k (by omega) (by omega)]
    exact up2_ne (by omega)
theorem rs_us {s2 : tS} {v : Int32} (hI : INV s r) (hc : Core s C G L) : INV (up2 (usS (tp0 s) n) 287 0 v) r := by
  have hc0 := core_tp0 hc
  have e : up2 (usS (tp0 s) n) 287 0 v 288 = tp0 s 288 := funext fun k => by rw [up2_ne (by omega), usS_o (by decide)]
  refine us_inv (n := n) (s2 := tp0 s) hI hc RS.refl ?_ ?_ (fun o k a b c d => up2_ne d) (fun k hk => by rw [e])
  · show Mw (up2 (usS (tp0 s) n) 287 0 v 288) C
    rw [e]
    exact hc0.1.2.2.1
  · show LMw (up2 (usS (tp0 s) n) 287 0 v 288) L
    rw [e]
    exact hc0.2.2.1
theorem tp0_1 : tp0 s 1 = s 1 := funext fun k => up2_ne (by omega)
theorem tp0_293 : tp0 s 293 = s 293 := funext fun k => up2_ne (by omega)
theorem tp0_9 : tp0 s 287 9 = s 287 9 := up2_ne (by omega)
theorem rs_tape {s2 : tS} (hr : RS (tp0 s) s2) : s2 1 = s 1 ∧ s2 293 = s 293 ∧ s2 287 9 = s 287 9 := by
  refine ⟨?_, ?_, ?_⟩
  · rw [← tp0_1 (s := s)]
    exact hr.at (fun k => by unfold scr; omega)
  · rw [← tp0_293 (s := s)]
    exact hr.at (fun k => by unfold scr; omega)
  · rw [hr.1 287 9 (by unfold scr; omega), tp0_9]
theorem told_of {u : Nat → Nat} (h : tlB C n u = true) : n ≤ 40 ∧ n % 2 = 0 ∧ ∀ j, j < n → u j < rnd C := by
  unfold tlB at h
  rw [Bool.and_eq_true, Bool.and_eq_true] at h
  exact ⟨of_decide_eq_true h.1, of_decide_eq_true h.2.1, fun j hj => of_decide_eq_true ((alE_iff n).mp h.2.2 j hj)⟩
theorem op_said {x1 : Int32} : Op g H_said (fun M => p11_said (ob g 0) x1 M) (fun M => p12_said (ob g 287) x1 M) := by
  intro s l r hI
  obtain ⟨C, G, L, n, p, hc, ht, hp, hk, hr⟩ := id hI
  obtain ⟨t1, t2, t3, t4⟩ := id ht
  have hC := hc.1.2.2.2.2.1
  have hc0 := core_tp0 hc
  have I0 := hc0.1.1
  have eu : p11_usedTape (ob g 0) (mm g s l r) = some (Int32.ofNat n, mm g (tp0 s) l r) := by
    simp only [p11_usedTape, a_gd, a_I, t2, obs, a_P]
    rfl
  have em : ∀ {l1 : tL} {s2 : tS}, s2 287 9 = s 287 9 → p12_uses (ob g 287) (mm g s2 l1 r) = some (mm g (usS s2 n) l1 r) := fun h => m_uses (by rw [h, t3])
  have MU : ∀ {s2 : tS}, Ms s2 C → Ms (usS s2 n) C := fun {s2} h => by
    show Mw (usS s2 n 288) C
    rw [usS_o (by decide)]
    exact h
  have hu1 : ∀ j, j < n → tp0 s 1 j = Int32.ofNat (ub s j) ∧ ub s j < 256 := fun j hj => by
    rw [tp0_1]
    exact ⟨(tape_u ht hj).2.1, (tape_u ht hj).1⟩
  rcases Bool.eq_false_or_eq_true (inR C x1) with hx | hx
  · obtain ⟨i, hi, rfl⟩ := inR_i I0.2.1 hx
    have hs := c_sights (g := g) (l := l) (r := r) I0 hC t1 hu1
    have htd : ∀ {l1 : tL} {s2 : tS}, Ms s2 C → s2 293 = s 293 → p12_isTold (ob g 287) (mm g (usS s2 n) l1 r) = some (ib (tlB C n (ub s))) := fun {l1 s2} hM h => m_told (MU hM) hC t1 usS_11 (fun j hj => by
      rw [usS_o (by decide), h]
      exact ⟨(tape_u ht hj).2.2, (tape_u ht hj).1⟩)
    rcases Bool.eq_false_or_eq_true (tlB C n (ub s)) with htl | htl
    · obtain ⟨n4, n2, hR⟩ := told_of htl
      rw [htl, if_pos rfl] at hs
      obtain ⟨s2, e2, F2⟩ := c_fitting (g := g) (l := l) (r := r) (u := ub s) I0 hc0.1.2.1 hc0.2.1 (hr.2.2.1.rs (funext fun k => up2_ne (by omega))) hc.2.2.2 hC hi n4 n2 (fun j hj => (hu1 j hj).1)
      have r2 := fps_rs F2
      have hc2 := hc0.rs r2
      obtain ⟨q1, q2, q3⟩ := rs_tape r2
      refine Or.inr ⟨fitV L C i (ub s) n, s2, r, ?_, fun l1 => ?_⟩
      · simp only [p11_said, a_gd, eu, obs, a_be_t I0 hx, xb, hs, a_R15, a_R0, e2, xr, Option.map_some]
      · have M2 := MU hc2.1.2.2.1
        have L2 : LMs (usS s2 n) L := by
          show LMw (usS s2 n 288) L
          rw [usS_o (by decide)]
          exact hc2.2.2.1
        obtain ⟨s3, e3, P3⟩ := m_fitting (g := g) (l := l1) (r := r) (u := ub s) M2 L2 hc.2.2.2 hC hi n4 n2 usS_11 (fun j hj => by
          rw [usS_o (by decide), q2]
          exact ⟨(tape_u ht hj).2.2, hR j hj⟩)
        refine ⟨s3, ?_, ?_, us_inv (n := n) hI hc r2 P3.1 P3.2.1 (fun o k a b c d => by rw [P3.2.2.1 o a b]) (fun k hk => by rw [P3.2.2.2 k hk, usS_o (by decide)])⟩
        · simp only [p12_said, w_gd, em q3, obs, m_nob_t M2 hx, m_th0, if_true, htd hc2.1.2.2.1 q2, htl, ib_t, one_z, if_false, p12_said_J30, e3, p12_said_J46]
        · rw [P3.2.2.1 287 (by decide) (by decide), usS_0]
    · rw [htl, if_neg (by decide)] at hs
      refine Or.inl ⟨0, tp0 s, r, up2 (usS (tp0 s) n) 287 0 2, 0, ?_, by decide, ?_, up2_eq, rs_us (s2 := s) hI hc⟩
      · simp only [p11_said, a_gd, eu, obs, a_be_t I0 hx, xb, hs]
      · simp only [p12_said, w_gd, em (s2 := tp0 s) tp0_9, obs, m_nob_t (MU hc0.1.2.2.1) hx, m_th0, if_true, htd hc0.1.2.2.1 tp0_293, htl, ib_f, p12_said_J30, m_th1, one_z, if_false, p12_said_J37, p12_said_J46]
  · refine Or.inl ⟨2, tp0 s, r, up2 (usS (tp0 s) n) 287 0 1, 0, ?_, by decide, ?_, up2_eq, rs_us (s2 := s) hI hc⟩
    · simp only [p11_said, a_gd, eu, obs, a_be_f (k := 0) I0 hx, xb]
    · simp only [p12_said, w_gd, em (s2 := tp0 s) tp0_9, obs, m_nob_f (MU hc0.1.2.2.1) hx, m_th1, one_z, if_false, p12_said_J37, p12_said_J46]
end
