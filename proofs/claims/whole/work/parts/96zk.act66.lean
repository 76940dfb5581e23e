section
variable {g : Nat} {s s' s0 : tS} {l : tL} {r : Nat → Nat} {n p b q e k N dp t : Nat} {u : Nat → Nat} {D : Dq} {M : mMem}
/-! an atom -/
theorem jq_atom {fy fa : Nat → Int32 → mMem → Option (Int32 × mMem)} {qa qc : Nat → mMem → Option (Int32 × mMem)} (hN : PNq n u N) (hdp : dp ≤ 6) (hA : dp < 6 → ∀ (D : Dq) k, k ≤ N → dqZ D + 1 ≤ k → JQ g n u N (fa (ob g 52) (Int32.ofNat (dp + 1))) (qa (ob g 287)) D (dp + 1) k (fun D' => tQq D D' true)) (hY : dp < 6 → ∀ (D : Dq) k, k ≤ N → dqZ D + 1 ≤ k → JQ g n u N (fy (ob g 52) (Int32.ofNat (dp + 1))) (qc (ob g 287)) D (dp + 1) k (fun D' => tQq D D' true)) (hk : k ≤ N) (hz : dqZ D + 1 ≤ k) : JQ g n u N (p5_readAtom_B fy fa (ob g 52) (Int32.ofNat dp)) (p12_readAtom_B qa qc (ob g 287)) D dp k (fun D' => tQq D D' true) := by
  have hN4 : N ≤ 400 := Nat.le_trans hN.1 hN.2.1
  have e13 : ∀ {s : tS} {p b : Nat}, s 287 13 = Int32.ofNat dp → sc s p b 287 13 = Int32.ofNat dp := fun h => by rw [sc_o (by omega)]; exact h
  have dn : ∀ {s : tS} {p b : Nat}, s 287 13 = Int32.ofNat (dp + 1) → sc s p b 287 13 - 1 = Int32.ofNat dp := fun h => by
    rw [sc_o (by omega), h]
    exact i_sub1 (by omega) (by omega)
  have R13 : ∀ {s : tS} {v : Int32}, RT s n u → RT (up2 s 287 13 v) n u := fun h => h.fq (mLq.up (by omega))
  by_cases c40 : th u n (tk u n k) = 40
  · obtain ⟨hkN, hlt⟩ := pn_lt hN hk c40 (by decide)
    have e40 : (Int32.ofNat (th u n (tk u n k)) = 40) = True := eq_true (congrArg Int32.ofNat c40)
    by_cases d6 : dp < 6
    · have l6 : (Int32.ofNat dp < 6) = True := eq_true ((i_lt (b := 6) (by omega) (by decide)).mpr d6)
      have q6 : (Int32.ofNat dp = 6) = False := eq_false (fun h => by have := (i_eq (b := 6) (by omega) (by decide)).mp h; omega)
      obtain ⟨ok, D1, k1, hc, hm, ht⟩ := hY d6 D (k + 1) (by omega) (by omega)
      have cls : ∀ (s : tS) (l : tL) (r : Nat → Nat), DqC s D → ATrL s n u N k → ∃ s2, fy (ob g 52) (Int32.ofNat (dp + 1)) (mm g (up2 s 52 6 (Int32.ofNat (k + 1))) l r) = some (ib ok, mm g s2 l r) ∧ cLq s s2 ∧ ATrL s2 n u N k1 ∧ (ok = true → DqC s2 D1) := fun s l r hD hA => by
        obtain ⟨s2, e2, F2, A2, D2⟩ := hc _ l r (hD.up (o := 52) (j := 6) (v := Int32.ofNat (k + 1)) (by decide)) (hA.go hkN)
        exact ⟨s2, e2, (cLq.up (by omega)).trans F2, A2, D2⟩
      have ref : ∀ (s : tS) (l : tL) (r : Nat → Nat) p b, p ≤ n → sk u n p = tk u n k → DqM s D → RT s n u → s 287 13 = Int32.ofNat dp → p12_sign (ob g 287) 40 (mm g (sc s p b) l r) = some (1, mm g (sc s (tk u n k + 1) (tk u n k)) l r) ∧ ∃ s' p' b', qc (ob g 287) (mm g (sc (up2 s 287 13 (Int32.ofNat (dp + 1))) (tk u n k + 1) (tk u n k)) l r) = some (ib ok, mm g (sc s' p' b') l r) ∧ mLq s s' ∧ p' ≤ n ∧ (ok = true → DqM s' D1 ∧ s' 287 13 = Int32.ofNat (dp + 1) ∧ sk u n p' = tk u n k1) ∧ (ok = false → b' = tk u n k1) := fun s l r p b hp hs hD hR h13 => by
        obtain ⟨es, ks, -⟩ := m_sign_t (g := g) (l := l) (r := r) (b := b) hR hp hs (c := 40) rfl c40
        obtain ⟨s4, p4, b4, e4, F4, q4⟩ := hm (tk u n k + 1) (tk u n k) (by omega) ks (up2 s 287 13 (Int32.ofNat (dp + 1))) l r (hD.up (by decide)) (R13 hR) up2_eq
        exact ⟨es, s4, p4, b4, e4, (mLq.up (by omega)).trans F4, q4⟩
      cases ok with
      | false =>
        refine ⟨false, D, k1, fun s l r hD hA => ?_, fun p b hp hs s l r hD hR h13 => ?_, fun h => (by cases h)⟩
        · obtain ⟨s2, e2, F2, A2, -⟩ := cls s l r hD hA
          have e6 := hA.2.2.1
          refine ⟨s2, ?_, F2, A2, fun h => (by cases h)⟩
          simp only [p5_readAtom_B, rL_gd, rL_next hA, obs, e40, if_true, p5_readAtom_J17, l6, rL_I, e6, rL_P, i_succ, e2, ib_f, p5_readAtom_J64, p5_readAtom_J65, bZ_0]
        · obtain ⟨es, s4, p4, b4, e4, F4, hp4, -, q4⟩ := ref s l r p b hp hs hD hR h13
          refine ⟨s4, p4, b4, ?_, F4, hp4, fun h => (by cases h), q4⟩
          simp only [p12_readAtom_B, w_gd, es, obs, one_z, if_false, w_getI, e13 h13, q6, w_putI, i_succ, sc_up (show ¬ (287 = 287 ∧ (13 = 10 ∨ 13 = 12)) by omega), e4, ib_f, if_true]
      | true =>
        obtain ⟨t1, t2, t3, t4⟩ := ht rfl
        by_cases c41 : th u n (tk u n k1) = 41
        · obtain ⟨hk1, -⟩ := pn_lt hN t3 c41 (by decide)
          refine ⟨true, D1, k1 + 1, fun s l r hD hA => ?_, fun p b hp hs s l r hD hR h13 => ?_, fun _ => ⟨t1, by omega, by omega, by omega⟩⟩
          · obtain ⟨s2, e2, F2, A2, D2⟩ := cls s l r hD hA
            have e6 := hA.2.2.1
            have et : p5_took (ob g 52) 41 (mm g s2 l r) = _ := rL_took_t A2 (c := 41) c41
            refine ⟨_, ?_, F2.trans (cLq.up (o := 52) (j := 6) (by omega)), A2.go hk1, fun _ => (D2 rfl).up (by decide)⟩
            simp only [p5_readAtom_B, rL_gd, rL_next hA, obs, e40, if_true, p5_readAtom_J17, l6, rL_I, e6, rL_P, i_succ, e2, ib_t, one_z, if_false, et, p5_readAtom_J65, bZ_1]
          · obtain ⟨es, s4, p4, b4, e4, F4, hp4, q4, -⟩ := ref s l r p b hp hs hD hR h13
            obtain ⟨D4, h4, k4⟩ := q4 rfl
            obtain ⟨es2, ks2, hl2⟩ := m_sign_t (g := g) (l := l) (r := r) (s := up2 s4 287 13 (Int32.ofNat dp)) (b := b4) (R13 (hR.fq F4)) hp4 k4 (c := 41) rfl c41
            have es2 : p12_sign (ob g 287) 41 _ = _ := es2
            refine ⟨up2 s4 287 13 (Int32.ofNat dp), tk u n k1 + 1, tk u n k1, ?_, F4.trans (mLq.up (by omega)), by omega, fun _ => ⟨D4.up (by decide), up2_eq, ks2⟩, fun h => (by cases h)⟩
            simp only [p12_readAtom_B, w_gd, es, obs, one_z, if_false, w_getI, e13 h13, q6, w_putI, i_succ, sc_up (show ¬ (287 = 287 ∧ (13 = 10 ∨ 13 = 12)) by omega), e4, ib_t, dn h4, es2, bZ_1]
        · refine ⟨false, D, k1, fun s l r hD hA => ?_, fun p b hp hs s l r hD hR h13 => ?_, fun h => (by cases h)⟩
          · obtain ⟨s2, e2, F2, A2, D2⟩ := cls s l r hD hA
            have e6 := hA.2.2.1
            have et : p5_took (ob g 52) 41 (mm g s2 l r) = _ := rL_took_f A2 (c := 41) (by decide) c41
            refine ⟨s2, ?_, F2, A2, fun h => (by cases h)⟩
            simp only [p5_readAtom_B, rL_gd, rL_next hA, obs, e40, if_true, p5_readAtom_J17, l6, rL_I, e6, rL_P, i_succ, e2, ib_t, one_z, if_false, et, p5_readAtom_J64, p5_readAtom_J65, bZ_0, ib_f]
          · obtain ⟨es, s4, p4, b4, e4, F4, hp4, q4, -⟩ := ref s l r p b hp hs hD hR h13
            obtain ⟨D4, h4, k4⟩ := q4 rfl
            have es2 : p12_sign (ob g 287) 41 _ = _ := m_sign_f (g := g) (l := l) (r := r) (s := up2 s4 287 13 (Int32.ofNat dp)) (b := b4) (R13 (hR.fq F4)) hp4 k4 (c := 41) rfl c41
            refine ⟨up2 s4 287 13 (Int32.ofNat dp), tk u n k1, tk u n k1, ?_, F4.trans (mLq.up (by omega)), tk_le k1, fun h => (by cases h), fun _ => rfl⟩
            simp only [p12_readAtom_B, w_gd, es, obs, one_z, if_false, w_getI, e13 h13, q6, w_putI, i_succ, sc_up (show ¬ (287 = 287 ∧ (13 = 10 ∨ 13 = 12)) by omega), e4, ib_t, dn h4, es2, bZ_0, ib_f]
    · have l6 : (Int32.ofNat dp < 6) = False := eq_false (fun h => d6 ((i_lt (b := 6) (by omega) (by decide)).mp h))
      have q6 : (Int32.ofNat dp = 6) = True := eq_true (congrArg Int32.ofNat (show dp = 6 by omega))
      refine ⟨false, D, k, fun s l r hD hA => ?_, fun p b hp hs s l r hD hR h13 => ?_, fun h => (by cases h)⟩
      · refine ⟨s, ?_, cLq.refl, hA, fun h => (by cases h)⟩
        simp only [p5_readAtom_B, rL_gd, rL_next hA, obs, e40, if_true, p5_readAtom_J17, l6, if_false, ib_f]
      · obtain ⟨es, -, -⟩ := m_sign_t (g := g) (l := l) (r := r) (b := b) hR hp hs (c := 40) rfl c40
        have es : p12_sign (ob g 287) 40 _ = _ := es
        refine ⟨s, tk u n k + 1, tk u n k, ?_, mLq.refl, by omega, fun h => (by cases h), fun _ => rfl⟩
        simp only [p12_readAtom_B, w_gd, es, obs, one_z, if_false, w_getI, e13 h13, q6, if_true, ib_f]
  have n40 : ∀ {s : tS}, ATrL s n u N k → (Int32.ofNat (th u n (tk u n k)) = 40) = False := fun hA => (rL_eq (c := 40) hA (by decide)).trans (eq_false c40)
  have sg0 : ∀ {s : tS} {l : tL} {r : Nat → Nat} {p b : Nat}, RT s n u → p ≤ n → sk u n p = tk u n k → p12_sign (ob g 287) 40 (mm g (sc s p b) l r) = some (0, mm g (sc s (tk u n k) (tk u n k)) l r) := fun hR hp hs => m_sign_f hR hp hs (c := 40) rfl c40
  by_cases c23 : th u n (tk u n k) = 23
  · obtain ⟨hkN, hlt⟩ := pn_lt hN hk c23 (by decide)
    have e23 : (Int32.ofNat (th u n (tk u n k)) = 23) = True := eq_true (congrArg Int32.ofNat c23)
    have ps : ∀ {s : tS} {l : tL} {r : Nat → Nat} {b : Nat}, RT s n u → p12_passes (ob g 287) 20 (mm g (sc s (tk u n k) b) l r) = some (1, mm g (sc s (eL u n (tk u n k)) (tk u n k)) l r) := fun hR => (m_pass_t hR (tk_le k) (sk_tk k) (w := 20) (by decide) c23).2.2
    obtain ⟨-, -, ks⟩ := wd_t (w := 20) (by decide) c23
    by_cases d6 : dp < 6
    · have l6 : (Int32.ofNat dp < 6) = True := eq_true ((i_lt (b := 6) (by omega) (by decide)).mpr d6)
      have q6 : (Int32.ofNat dp = 6) = False := eq_false (fun h => by have := (i_eq (b := 6) (by omega) (by decide)).mp h; omega)
      obtain ⟨ok, D1, k1, hc, hm, ht⟩ := hA d6 D (k + 1) (by omega) (by omega)
      have cls : ∀ (s : tS) (l : tL) (r : Nat → Nat), DqC s D → ATrL s n u N k → ∃ s2, fa (ob g 52) (Int32.ofNat (dp + 1)) (mm g (up2 s 52 6 (Int32.ofNat (k + 1))) l r) = some (ib ok, mm g s2 l r) ∧ cLq s s2 ∧ ATrL s2 n u N k1 ∧ (ok = true → DqC s2 D1) := fun s l r hD hA => by
        obtain ⟨s2, e2, F2, A2, D2⟩ := hc _ l r (hD.up (o := 52) (j := 6) (v := Int32.ofNat (k + 1)) (by decide)) (hA.go hkN)
        exact ⟨s2, e2, (cLq.up (by omega)).trans F2, A2, D2⟩
      have ref : ∀ (s : tS) (l : tL) (r : Nat → Nat), DqM s D → RT s n u → s 287 13 = Int32.ofNat dp → ∃ s' p' b', qa (ob g 287) (mm g (sc (up2 s 287 13 (Int32.ofNat (dp + 1))) (eL u n (tk u n k)) (tk u n k)) l r) = some (ib ok, mm g (sc s' p' b') l r) ∧ mLq s s' ∧ p' ≤ n ∧ (ok = true → DqM s' D1 ∧ s' 287 13 = Int32.ofNat (dp + 1) ∧ sk u n p' = tk u n k1) ∧ (ok = false → b' = tk u n k1) := fun s l r hD hR h13 => by
        obtain ⟨s4, p4, b4, e4, F4, q4⟩ := hm (eL u n (tk u n k)) (tk u n k) (rU_le (tk_le k)) ks (up2 s 287 13 (Int32.ofNat (dp + 1))) l r (hD.up (by decide)) (R13 hR) up2_eq
        exact ⟨s4, p4, b4, e4, (mLq.up (by omega)).trans F4, q4⟩
      cases ok with
      | false =>
        refine ⟨false, D, k1, fun s l r hD hA => ?_, fun p b hp hs s l r hD hR h13 => ?_, fun h => (by cases h)⟩
        · obtain ⟨s2, e2, F2, A2, -⟩ := cls s l r hD hA
          have e6 := hA.2.2.1
          refine ⟨s2, ?_, F2, A2, fun h => (by cases h)⟩
          simp only [p5_readAtom_B, rL_gd, rL_next hA, obs, n40 hA, e23, if_false, if_true, p5_readAtom_J17, l6, rL_I, e6, rL_P, i_succ, e2, ib_f]
        · obtain ⟨s4, p4, b4, e4, F4, hp4, -, q4⟩ := ref s l r hD hR h13
          refine ⟨s4, p4, b4, ?_, F4, hp4, fun h => (by cases h), q4⟩
          simp only [p12_readAtom_B, w_gd, sg0 hR hp hs, obs, if_true, ps hR, one_z, if_false, w_getI, e13 h13, q6, w_putI, i_succ, sc_up (show ¬ (287 = 287 ∧ (13 = 10 ∨ 13 = 12)) by omega), e4, ib_f]
      | true =>
        obtain ⟨t1, t2, t3, t4⟩ := ht rfl
        refine ⟨true, dqP D1 13 0, k1, fun s l r hD hA => ?_, fun p b hp hs s l r hD hR h13 => ?_, fun _ => ⟨tq_not t1, by omega, t3, by rw [dqP_z]; omega⟩⟩
        · obtain ⟨s2, e2, F2, A2, D2⟩ := cls s l r hD hA
          have e6 := hA.2.2.1
          obtain ⟨s3, e3, F3, D3, A3⟩ := lq_put (g := g) (l := l) (r := r) (n := n) (u := u) (N := N) (x := 23) (o := 13) (v := 0) (D2 rfl) (by omega) rfl
          refine ⟨s3, ?_, F2.trans F3, A3 _ A2, fun _ => D3⟩
          simp only [p5_readAtom_B, rL_gd, rL_next hA, obs, n40 hA, e23, if_false, if_true, p5_readAtom_J17, l6, rL_I, e6, rL_P, i_succ, e2, ib_t, one_z, lq_R8, e3]
        · obtain ⟨s4, p4, b4, e4, F4, hp4, q4, -⟩ := ref s l r hD hR h13
          obtain ⟨D4, h4, k4⟩ := q4 rfl
          obtain ⟨s5, e5, F5, D5, h5⟩ := lq_emD (g := g) (l := l) (r := r) (s := up2 s4 287 13 (Int32.ofNat dp)) (p := p4) (b := b4) (o := 13) (x := 13) (v := 0) (D4.up (by decide)) (by omega) rfl
          refine ⟨s5, p4, b4, ?_, (F4.trans (mLq.up (by omega))).trans F5, hp4, fun _ => ⟨D5, by rw [h5, up2_eq], k4⟩, fun h => (by cases h)⟩
          simp only [p12_readAtom_B, w_gd, sg0 hR hp hs, obs, if_true, ps hR, one_z, if_false, w_getI, e13 h13, q6, w_putI, i_succ, sc_up (show ¬ (287 = 287 ∧ (13 = 10 ∨ 13 = 12)) by omega), e4, ib_t, dn h4, e5]
    · have l6 : (Int32.ofNat dp < 6) = False := eq_false (fun h => d6 ((i_lt (b := 6) (by omega) (by decide)).mp h))
      have q6 : (Int32.ofNat dp = 6) = True := eq_true (congrArg Int32.ofNat (show dp = 6 by omega))
      refine ⟨false, D, k, fun s l r hD hA => ?_, fun p b hp hs s l r hD hR h13 => ?_, fun h => (by cases h)⟩
      · refine ⟨s, ?_, cLq.refl, hA, fun h => (by cases h)⟩
        simp only [p5_readAtom_B, rL_gd, rL_next hA, obs, n40 hA, e23, if_true, p5_readAtom_J17, l6, if_false, ib_f]
      · refine ⟨s, eL u n (tk u n k), tk u n k, ?_, mLq.refl, rU_le (tk_le k), fun h => (by cases h), fun _ => rfl⟩
        simp only [p12_readAtom_B, w_gd, sg0 hR hp hs, obs, if_true, ps hR, one_z, if_false, w_getI, e13 h13, q6, ib_f]
  have n23 : ∀ {s : tS}, ATrL s n u N k → (Int32.ofNat (th u n (tk u n k)) = 23) = False := fun hA => (rL_eq (c := 23) hA (by decide)).trans (eq_false c23)
  have ps0 : ∀ {s : tS} {l : tL} {r : Nat → Nat} {b : Nat}, RT s n u → p12_passes (ob g 287) 20 (mm g (sc s (tk u n k) b) l r) = some (0, mm g (sc s (tk u n k) (tk u n k)) l r) := fun hR => m_pass_f hR (tk_le k) (sk_tk k) (w := 20) (by decide) c23
  by_cases ct : tgq (th u n (tk u n k)) < 16
  · obtain ⟨hcl, h6, h8, -⟩ := tg_k ct
    obtain ⟨hkN, hlt⟩ := pn_lt hN hk rfl (fun h => by rw [h] at ct; exact absurd ct (by decide))
    refine ⟨true, dqP D (tgq (th u n (tk u n k))) 0, k + 1, fun s l r hD hA => ?_, fun p b hp hs s l r hD hR h13 => ?_, fun _ => ⟨tq_tag h6 h8, by omega, by omega, by rw [dqP_z]; omega⟩⟩
    · have e6 := hA.2.2.1
      obtain ⟨s3, e3, F3, D3, A3⟩ := lq_put (g := g) (l := l) (r := r) (n := n) (u := u) (N := N) (v := 0) (hD.up (o := 52) (j := 6) (v := Int32.ofNat (k + 1)) (by decide)) (by omega) hcl
      have ej : p5_readAtom_J108 (ob g 52) (Int32.ofNat (th u n (tk u n k))) (mm g s l r) = some (1, mm g s3 l r) := by
        simp only [p5_readAtom_J108, rL_I, e6, obs, rL_P, i_succ, lq_R8, e3]
      refine ⟨s3, ?_, (cLq.up (by omega)).trans F3, A3 _ (hA.go hkN), fun _ => D3⟩
      have m12 : (Int32.ofNat (th u n (tk u n k)) = 12) = (th u n (tk u n k) = 12) := rL_eq (c := 12) hA (by decide)
      have m24 : (Int32.ofNat (th u n (tk u n k)) = 24) = (th u n (tk u n k) = 24) := rL_eq (c := 24) hA (by decide)
      have m25 : (Int32.ofNat (th u n (tk u n k)) = 25) = (th u n (tk u n k) = 25) := rL_eq (c := 25) hA (by decide)
      by_cases x1 : th u n (tk u n k) = 12
      · have y1 : (th u n (tk u n k) = 12) = True := eq_true x1
        simp only [p5_readAtom_B, rL_gd, rL_next hA, obs, n40 hA, n23 hA, if_false, m12, y1, if_true, ej, ib_t]
      by_cases x2 : th u n (tk u n k) = 24
      · have y2 : (th u n (tk u n k) = 24) = True := eq_true x2
        simp only [p5_readAtom_B, rL_gd, rL_next hA, obs, n40 hA, n23 hA, if_false, m12, x1, m24, y2, if_true, ej, ib_t]
      · have x3 : th u n (tk u n k) = 25 := by have := tg_t ct; omega
        have y3 : (th u n (tk u n k) = 25) = True := eq_true x3
        simp only [p5_readAtom_B, rL_gd, rL_next hA, obs, n40 hA, n23 hA, if_false, m12, x1, m24, x2, m25, y3, if_true, ej, ib_t]
    · obtain ⟨s3, e3, F3, D3, h3, k3⟩ := m_tag_t (g := g) (l := l) (r := r) (b := tk u n k) hD hR (tk_le k) (sk_tk k) (by omega) ct
      refine ⟨s3, eL u n (tk u n k), tk u n k, ?_, F3, rU_le (tk_le k), fun _ => ⟨D3, h3.trans h13, k3⟩, fun h => (by cases h)⟩
      simp only [p12_readAtom_B, w_gd, sg0 hR hp hs, obs, if_true, ps0 hR, e3, one_z, if_false, ib_t]
  · obtain ⟨f1, f2, f3⟩ := tg_f ct
    obtain ⟨ok, D1, k1, hc, hm, ht⟩ := jq_cmp (g := g) (dp := dp) hN hk hz
    refine ⟨ok, D1, k1, fun s l r hD hA => ?_, fun p b hp hs s l r hD hR h13 => ?_, ht⟩
    · have m12 : (Int32.ofNat (th u n (tk u n k)) = 12) = False := (rL_eq (c := 12) hA (by decide)).trans (eq_false f1)
      have m24 : (Int32.ofNat (th u n (tk u n k)) = 24) = False := (rL_eq (c := 24) hA (by decide)).trans (eq_false f2)
      have m25 : (Int32.ofNat (th u n (tk u n k)) = 25) = False := (rL_eq (c := 25) hA (by decide)).trans (eq_false f3)
      obtain ⟨s2, e2, F2, A2, D2⟩ := hc s l r hD hA
      refine ⟨s2, ?_, F2, A2, D2⟩
      simp only [p5_readAtom_B, rL_gd, rL_next hA, obs, n40 hA, n23 hA, m12, m24, m25, if_false, e2, bZ_ib]
    · obtain ⟨s4, p4, b4, e4, F4, hp4, q4⟩ := hm (tk u n k) (tk u n k) (tk_le k) (sk_tk k) s l r hD hR h13
      refine ⟨s4, p4, b4, ?_, F4, hp4, q4⟩
      rw [← e4]
      simp only [p12_readAtom_B, w_gd, sg0 hR hp hs, obs, if_true, ps0 hR, m_tag_f hR (tk_le k) (sk_tk k) ct, cmpQ]
end
