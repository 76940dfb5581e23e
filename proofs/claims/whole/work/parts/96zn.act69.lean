section
variable {g : Nat} {s s' s0 : tS} {l : tL} {r : Nat → Nat} {n p b q e k N i kd : Nat} {u : Nat → Nat} {D D' : Dq} {M : mMem} {am : Int32} {I : Lnq}
/-! a line of a law, in both -/
def JN (g n : Nat) (u : Nat → Nat) (N : Nat) (I : Lnq) (D : Dq) (k : Nat) : Prop := ∃ ok I' D' k', (∀ (s : tS) (l : tL) (r : Nat → Nat), LnC s I → DqC s D → ATrL s n u N k → ∃ s', p5_readLine (ob g 52) (mm g s l r) = some (ib ok, mm g s' l r) ∧ cNq s s' ∧ ATrL s' n u N k' ∧ (ok = true → LnC s' I' ∧ DqC s' D')) ∧ (∀ (s : tS) (l : tL) (r : Nat → Nat), LnM s I → DqM s D → RT s n u → ∃ s' p' b', p12_readLawLine (ob g 287) (Int32.ofNat (lnC I)) (mm g (sc s (eL u n (tk u n k)) (tk u n k)) l r) = some (ib ok, mm g (sc s' p' b') l r) ∧ mNq s s' ∧ p' ≤ n ∧ (ok = true → LnM s' I' ∧ DqM s' D' ∧ sk u n p' = tk u n k') ∧ (ok = false → b' = tk u n k')) ∧ (ok = true → VLn I' D' ∧ lnC I' = lnC I + 1 ∧ k' ≤ N ∧ dqZ D' ≤ k')
theorem i_base : (1295 : Int32) + 4 * Int32.ofNat i = Int32.ofNat (1295 + 4 * i) := by
  show Int32.ofNat 1295 + Int32.ofNat 4 * Int32.ofNat i = _
  rw [i_mul, i_add]
theorem m_kind (hR : RT s n u) (hk : kd ≤ 2) (c : th u n (tk u n k) = 17 + kd) : p12_readLawLine (ob g 287) (Int32.ofNat i) (mm g (sc s (eL u n (tk u n k)) (tk u n k)) l r) = p12_readLawLine_J56 (ob g 287) (Int32.ofNat (1295 + 4 * i)) (ob g 288) (Int32.ofNat (1295 + 4 * i)) (Int32.ofNat kd) (mm g (sc s (eL u n (tk u n k)) (tk u n k)) l r) := by
  have hx : kd = 0 ∨ kd = 1 ∨ kd = 2 := by omega
  rcases hx with rfl | rfl | rfl
  · simp only [p12_readLawLine, w_gd, w_R1, mW_t hR (w := 14) (by decide) c, obs, one_z, if_false, i_base]
    rfl
  · simp only [p12_readLawLine, w_gd, w_R1, mW_f hR (w := 14) (by decide) (show th u n (tk u n k) ≠ 3 + 14 by omega), mW_t hR (w := 15) (by decide) c, obs, one_z, if_true, if_false, i_base]
    rfl
  · simp only [p12_readLawLine, w_gd, w_R1, mW_f hR (w := 14) (by decide) (show th u n (tk u n k) ≠ 3 + 14 by omega), mW_f hR (w := 15) (by decide) (show th u n (tk u n k) ≠ 3 + 15 by omega), mW_t hR (w := 16) (by decide) c, obs, one_z, if_true, if_false, i_base]
    rfl
theorem c_kind (hA : ATrL s n u N k) (hk : kd ≤ 2) (c : th u n (tk u n k) = 17 + kd) : p5_readLine (ob g 52) (mm g s l r) = p5_readLine_J25 (ob g 52) (Int32.ofNat (17 + kd)) (mm g s l r) := by
  have hx : kd = 0 ∨ kd = 1 ∨ kd = 2 := by omega
  have en := rL_next (g := g) (l := l) (r := r) hA
  rw [c] at en
  rcases hx with rfl | rfl | rfl
  · have a : (Int32.ofNat (17 + 0) = 17) = True := eq_true rfl
    simp only [p5_readLine, rL_gd, en, obs, a, if_true]
  · have a : (Int32.ofNat (17 + 1) = 17) = False := by decide
    have a' : (Int32.ofNat (17 + 1) = 18) = True := eq_true rfl
    simp only [p5_readLine, rL_gd, en, obs, a, a', if_true, if_false]
  · have a : (Int32.ofNat (17 + 2) = 17) = False := by decide
    have a' : (Int32.ofNat (17 + 2) = 18) = False := by decide
    have a'' : (Int32.ofNat (17 + 2) = 19) = True := eq_true rfl
    simp only [p5_readLine, rL_gd, en, obs, a, a', a'', if_true, if_false]
theorem LnM.put {bg en : Nat} (h : LnM s I) (hf : ∀ j, j < 1295 + 4 * lnC I → 1294 ≤ j → s' 288 j = s 288 j) (h0 : s' 288 (1295 + 4 * lnC I) = Int32.ofNat kd) (h1 : s' 288 (1295 + 4 * lnC I + 1) = if kd = 2 then 1 else am) (h2 : s' 288 (1295 + 4 * lnC I + 2) = Int32.ofNat bg) (h3 : s' 288 (1295 + 4 * lnC I + 3) = Int32.ofNat en) : LnM s' (lnP I kd am bg en) := by
  intro i hi
  have hi' : i < lnC I + 1 := hi
  show _ = Int32.ofNat (up1 (lnK I) (lnC I) kd i) ∧ _ = (if up1 (lnK I) (lnC I) kd i = 2 then 1 else up1 (lnA I) (lnC I) am i) ∧ _ = Int32.ofNat (up1 (lnBq I) (lnC I) bg i) ∧ _ = Int32.ofNat (up1 (lnE I) (lnC I) en i)
  by_cases c : i = lnC I
  · rw [c, up1_eq, up1_eq, up1_eq, up1_eq]
    exact ⟨h0, h1, h2, h3⟩
  · rw [up1_ne c, up1_ne c, up1_ne c, up1_ne c, hf _ (by omega) (by omega), hf _ (by omega) (by omega), hf _ (by omega) (by omega), hf _ (by omega) (by omega)]
    exact h i (by omega)
/-- the amount is read, then the end of the line -/
theorem jn_head (hN : PNq n u N) (hV : VLn I D) (h12 : lnC I < 12) (hk1 : e ≤ N) (hz : dqZ D + 1 ≤ e) (hkd : kd ≤ 2) (ha : bw 0 60 am) (ha2 : kd = 2 → am = 0) (c : th u n (tk u n k) = 17 + kd)
    (hc : ∀ (s : tS) (l : tL) (r : Nat → Nat), DqC s D → ATrL s n u N k → ∃ s', p5_readLine_J25 (ob g 52) (Int32.ofNat (17 + kd)) (mm g s l r) = p5_readLine_J67 (ob g 52) (Int32.ofNat (17 + kd)) am (mm g s' l r) ∧ cLq s s' ∧ DqC s' D ∧ ATrL s' n u N e)
    (hm : ∀ (s : tS) (l : tL) (r : Nat → Nat), DqM s D → RT s n u → ∃ s' p' b', p12_readLawLine_J56 (ob g 287) (Int32.ofNat (1295 + 4 * lnC I)) (ob g 288) (Int32.ofNat (1295 + 4 * lnC I)) (Int32.ofNat kd) (mm g (sc s (eL u n (tk u n k)) (tk u n k)) l r) = tlQ g (Int32.ofNat (1295 + 4 * lnC I)) (mm g (sc s' p' b') l r) ∧ (∀ o j, ¬ (o = 288 ∧ (j = 1295 + 4 * lnC I ∨ j = 1295 + 4 * lnC I + 1)) → s' o j = s o j) ∧ s' 288 (1295 + 4 * lnC I) = Int32.ofNat kd ∧ s' 288 (1295 + 4 * lnC I + 1) = (if kd = 2 then 1 else am) ∧ p' ≤ n ∧ sk u n p' = tk u n e) : JN g n u N I D k := by
  obtain ⟨ok, D', k', h1, h2, h3⟩ := jq_tail (g := g) (kd := kd) (am := am) (i := lnC I) (I := I) hN hk1 hz h12 h12
  refine ⟨ok, lnP I kd am (dqZ D) (dqZ D'), D', k', fun s l r hI hD hA => ?_, fun s l r hI hD hR => ?_, fun h => ?_⟩
  · obtain ⟨s1, e1, F1, D1, A1⟩ := hc s l r hD hA
    obtain ⟨s2, e2, F2, A2, q2⟩ := h1 s1 l r (hI.lq F1) D1 A1
    exact ⟨s2, ((c_kind hA hkd c).trans e1).trans e2, (cNq.lq F1).trans F2, A2, q2⟩
  · obtain ⟨s1, p1, b1, e1, F1, v0, v1, hp1, k1⟩ := hm s l r hD hR
    have F1n : mNq s s1 := fun o j x _ => F1 o j (by omega)
    have D1 : DqM s1 D := ⟨by rw [F1 287 16 (by omega)]; exact hD.1, fun j hj => by rw [F1 288 _ (by omega), F1 288 _ (by omega)]; exact hD.2 j hj⟩
    obtain ⟨s2, p2, b2, e2, F2, hp2, q2, q3⟩ := h2 s1 l r p1 b1 D1 (hR.fn F1n) hp1 k1
    refine ⟨s2, p2, b2, ((m_kind hR hkd c).trans e1).trans e2, F1n.trans F2.mn, hp2, fun h => ?_, q3⟩
    obtain ⟨D2, w2, w3, k2⟩ := q2 h
    exact ⟨hI.put (fun j x y => by rw [F2 288 j (by omega) (by omega), F1 288 j (by omega)]) (by rw [F2 288 _ (by omega) (by omega)]; exact v0) (by rw [F2 288 _ (by omega) (by omega)]; exact v1) w2 w3, D2, k2⟩
  · obtain ⟨a1, a2, a3, a4⟩ := h3 h
    exact ⟨hV.put h12 hkd ha ha2 a1 a2, rfl, a3, by omega⟩
theorem jn_line (hN : PNq n u N) (hk : k ≤ N) (hV : VLn I D) (h12 : lnC I < 12) (hz : dqZ D ≤ k) : JN g n u N I D k := by
  have hN4 : N ≤ 400 := Nat.le_trans hN.1 hN.2.1
  have w0 : ∀ {s : tS} {l : tL} {r : Nat → Nat} {v : Int32}, astI (mm g s l r) (ob g 288) (Int32.ofNat (1295 + 4 * lnC I)) v = some (mm g (up2 s 288 (1295 + 4 * lnC I) v) l r) := w_ast (by omega)
  have r0 : ∀ {s : tS} {l : tL} {r : Nat → Nat}, aldI (mm g s l r) (ob g 288) 20 (Int32.ofNat (1295 + 4 * lnC I)) = some (s 288 (1295 + 4 * lnC I)) := w_ald (by omega)
  have w1 : ∀ {s : tS} {l : tL} {r : Nat → Nat} {v : Int32}, astI (mm g s l r) (ob g 288) (Int32.ofNat (1295 + 4 * lnC I + 1)) v = some (mm g (up2 s 288 (1295 + 4 * lnC I + 1) v) l r) := w_ast (by omega)
  have r1 : ∀ {s : tS} {l : tL} {r : Nat → Nat}, aldI (mm g s l r) (ob g 288) 20 (Int32.ofNat (1295 + 4 * lnC I + 1)) = some (s 288 (1295 + 4 * lnC I + 1)) := w_ald (by omega)
  have su : ∀ {s : tS} {p b j : Nat} {v : Int32}, up2 (sc s p b) 288 j v = sc (up2 s 288 j v) p b := sc_up (by omega)
  by_cases c2 : th u n (tk u n k) = 17 + 2
  · obtain ⟨hkN, hlt⟩ := pn_lt hN hk c2 (by decide)
    obtain ⟨-, -, ks⟩ := wd_t (w := 16) (by decide) (show th u n (tk u n k) = 3 + 16 from c2)
    refine jn_head (e := k + 1) (kd := 2) (am := 0) hN hV h12 (by omega) (by omega) (by decide) ⟨by decide, by decide⟩ (fun _ => rfl) c2 (fun s l r hD hA => ?_) (fun s l r hD hR => ?_)
    · have e6 := hA.2.2.1
      refine ⟨_, ?_, cLq.up (o := 52) (j := 6) (by omega), hD.up (by decide), hA.go hkN⟩
      have a : (Int32.ofNat (17 + 2) = 19) = True := eq_true rfl
      simp only [p5_readLine_J25, rL_I, e6, obs, rL_P, i_succ, a, if_true, p5_readLine_J53]
    · refine ⟨up2 (up2 s 288 (1295 + 4 * lnC I) (Int32.ofNat 2)) 288 (1295 + 4 * lnC I + 1) 1, eL u n (tk u n k), tk u n k, ?_, fun o j h => by rw [up2_ne (by omega), up2_ne (by omega)], by rw [up2_ne (by omega), up2_eq], by rw [up2_eq, if_pos rfl], rU_le (tk_le k), ks⟩
      have e0 : sc (up2 s 288 (1295 + 4 * lnC I) (Int32.ofNat 2)) (eL u n (tk u n k)) (tk u n k) 288 (1295 + 4 * lnC I) = 2 := by rw [sc_o (by omega)]; exact up2_eq
      have e1 : sc (up2 (up2 s 288 (1295 + 4 * lnC I) (Int32.ofNat 2)) 288 (1295 + 4 * lnC I + 1) 1) (eL u n (tk u n k)) (tk u n k) 288 (1295 + 4 * lnC I + 1) = 1 := by rw [sc_o (by omega), up2_eq]
      have l2 : ((2 : Int32) < 0) = False := by decide
      have l1 : ((1 : Int32) < 0) = False := by decide
      simp only [p12_readLawLine_J56, w0, obs, su, w_R1, r0, e0, l2, if_false, if_true, p12_readLawLine_J96, i_succ, w1, r1, e1, l1, tlQ]
  by_cases c1 : th u n (tk u n k) = 17 ∨ th u n (tk u n k) = 18
  · obtain ⟨kd, hkd, c⟩ : ∃ kd, kd < 2 ∧ th u n (tk u n k) = 17 + kd := by
      rcases c1 with c | c
      · exact ⟨0, by decide, c⟩
      · exact ⟨1, by decide, c⟩
    obtain ⟨hkN, hlt⟩ := pn_lt hN hk c (by omega)
    obtain ⟨-, -, ks⟩ := wd_t (w := 14 + kd) (show 14 + kd < 27 by omega) (show th u n (tk u n k) = 3 + (14 + kd) by omega)
    have n19 : (Int32.ofNat (17 + kd) = 19) = False := eq_false (fun h => by have := (i_eq (b := 19) (by omega) (by decide)).mp h; omega)
    have n2 : (Int32.ofNat kd = 2) = False := eq_false (fun h => by have := (i_eq (b := 2) (by omega) (by decide)).mp h; omega)
    have l0 : (Int32.ofNat kd < 0) = False := eq_false (i_nlt0 (by omega))
    have e0 : ∀ {s : tS} {p b : Nat}, sc (up2 s 288 (1295 + 4 * lnC I) (Int32.ofNat kd)) p b 288 (1295 + 4 * lnC I) = Int32.ofNat kd := by
      intro s p b
      rw [sc_o (by omega), up2_eq]
    have e1 : ∀ {s : tS} {p b : Nat} {v : Int32}, sc (up2 s 288 (1295 + 4 * lnC I + 1) v) p b 288 (1295 + 4 * lnC I + 1) = v := by
      intro s p b v
      rw [sc_o (by omega), up2_eq]
    have FR : ∀ {s : tS} {v : Int32}, mNq s (up2 s 288 (1295 + 4 * lnC I) v) := mNq.up (by omega)
    cases ok : inN u n (tk u n (k + 1)) 0 61 with
    | true =>
      obtain ⟨-, -, v2, v3⟩ := in_nu ok
      obtain ⟨ks1, hl1⟩ := num_sk ok
      have hk2 : k + 1 < N := by
        by_cases x : k + 1 = N
        · rw [x] at hl1
          have := hN.2.2.1
          omega
        · omega
      have e8 : (Int32.ofNat (nuV u n (tk u n (k + 1))) < 0) = False := eq_false (i_nlt0 (by omega))
      refine jn_head (e := k + 2) (kd := kd) (am := Int32.ofNat (nuV u n (tk u n (k + 1)))) hN hV h12 (by omega) (by omega) (by omega) ⟨by rw [i_toInt (by omega)]; omega, by rw [i_toInt (by omega)]; omega⟩ (fun h => by omega) c (fun s l r hD hA => ?_) (fun s l r hD hR => ?_)
      · have e6 := hA.2.2.1
        have A1 := hA.go hkN
        have F : cLq s (up2 (up2 (up2 s 52 6 (Int32.ofNat (k + 1))) 52 7 (Int32.ofNat (nuV u n (tk u n (k + 1))))) 52 6 (Int32.ofNat (k + 1 + 1))) := ((cLq.up (by omega)).trans (cLq.up (by omega))).trans (cLq.up (by omega))
        have et : p5_tookNumber (ob g 52) 0 60 _ = _ := rL_tN_t (g := g) (l := l) (r := r) (lo := 0) (hi := 60) A1 (by decide) (lit_hh (m := 60) (by decide)) ok
        have e7 : up2 (up2 (up2 s 52 6 (Int32.ofNat (k + 1))) 52 7 (Int32.ofNat (nuV u n (tk u n (k + 1))))) 52 6 (Int32.ofNat (k + 1 + 1)) 52 7 = Int32.ofNat (nuV u n (tk u n (k + 1))) := by rw [up2_ne (by omega), up2_eq]
        refine ⟨_, ?_, F, ((hD.up (by decide)).up (by decide)).up (by decide), hA.fq F up2_eq (show k + 2 ≤ N by omega)⟩
        simp only [p5_readLine_J25, rL_I, e6, obs, rL_P, i_succ, n19, if_false, et, one_z, p5_readLine_J53, e7]
      · have R1 : RT (up2 s 288 (1295 + 4 * lnC I) (Int32.ofNat kd)) n u := hR.fn FR
        have en : p12_number (ob g 287) 0 60 _ = _ := m_num_t (g := g) (l := l) (r := r) (lo := 0) (hi := 60) (p := eL u n (tk u n k)) (b := tk u n k) R1 (rU_le (tk_le k)) (by decide) (lit_hh (m := 60) (by decide)) ks ok
        refine ⟨up2 (up2 s 288 (1295 + 4 * lnC I) (Int32.ofNat kd)) 288 (1295 + 4 * lnC I + 1) (Int32.ofNat (nuV u n (tk u n (k + 1)))), eD u n (tk u n (k + 1)), tk u n (k + 1), ?_, fun o j h => by rw [up2_ne (by omega), up2_ne (by omega)], by rw [up2_ne (by omega), up2_eq], by rw [up2_eq, if_neg (by omega)], rU_le (tk_le _), ks1⟩
        simp only [p12_readLawLine_J56, w0, obs, su, w_R1, r0, e0, l0, if_false, n2, en, p12_readLawLine_J96, i_succ, w1, r1, e1, e8, tlQ]
    | false =>
      refine ⟨false, I, D, k + 1, fun s l r hI hD hA => ?_, fun s l r hI hD hR => ?_, fun h => (by cases h)⟩
      · have e6 := hA.2.2.1
        have A1 := hA.go hkN
        have et : p5_tookNumber (ob g 52) 0 60 _ = _ := rL_tN_f (g := g) (l := l) (r := r) (lo := 0) (hi := 60) A1 (by decide) (lit_hh (m := 60) (by decide)) ok
        refine ⟨_, ?_, cNq.up (o := 52) (j := 6) (by omega), A1, fun h => (by cases h)⟩
        rw [c_kind hA (by omega) c]
        simp only [p5_readLine_J25, rL_I, e6, obs, rL_P, i_succ, n19, if_false, et, if_true, ib_f]
      · have R1 : RT (up2 s 288 (1295 + 4 * lnC I) (Int32.ofNat kd)) n u := hR.fn FR
        have en : p12_number (ob g 287) 0 60 _ = _ := m_num_f (g := g) (l := l) (r := r) (lo := 0) (hi := 60) (p := eL u n (tk u n k)) (b := tk u n k) R1 (rU_le (tk_le k)) (by decide) (lit_hh (m := 60) (by decide)) ks ok
        refine ⟨up2 (up2 s 288 (1295 + 4 * lnC I) (Int32.ofNat kd)) 288 (1295 + 4 * lnC I + 1) (-1), eD u n (tk u n (k + 1)), tk u n (k + 1), ?_, FR.trans (mNq.up (by omega)), rU_le (tk_le _), fun h => (by cases h), fun _ => rfl⟩
        rw [m_kind hR (by omega) c]
        simp only [p12_readLawLine_J56, w0, obs, su, w_R1, r0, e0, l0, if_false, n2, en, p12_readLawLine_J96, i_succ, w1, r1, e1, m1_lt, if_true, ib_f]
  · refine ⟨false, I, D, k, fun s l r hI hD hA => ?_, fun s l r hI hD hR => ?_, fun h => (by cases h)⟩
    · have n17 : (Int32.ofNat (th u n (tk u n k)) = 17) = False := (rL_eq (c := 17) hA (by decide)).trans (eq_false (by omega))
      have n18 : (Int32.ofNat (th u n (tk u n k)) = 18) = False := (rL_eq (c := 18) hA (by decide)).trans (eq_false (by omega))
      have n19 : (Int32.ofNat (th u n (tk u n k)) = 19) = False := (rL_eq (c := 19) hA (by decide)).trans (eq_false (by omega))
      refine ⟨s, ?_, cNq.refl, hA, fun h => (by cases h)⟩
      simp only [p5_readLine, rL_gd, rL_next hA, obs, n17, n18, n19, if_false, ib_f]
    · have e0 : sc (up2 s 288 (1295 + 4 * lnC I) (-1)) (eL u n (tk u n k)) (tk u n k) 288 (1295 + 4 * lnC I) = -1 := by rw [sc_o (by omega), up2_eq]
      refine ⟨up2 s 288 (1295 + 4 * lnC I) (-1), eL u n (tk u n k), tk u n k, ?_, mNq.up (by omega), rU_le (tk_le k), fun h => (by cases h), fun _ => rfl⟩
      simp only [p12_readLawLine, w_gd, w_R1, mW_f hR (w := 14) (by decide) (show th u n (tk u n k) ≠ 3 + 14 by omega), mW_f hR (w := 15) (by decide) (show th u n (tk u n k) ≠ 3 + 15 by omega), mW_f hR (w := 16) (by decide) (show th u n (tk u n k) ≠ 3 + 16 by omega), obs, if_true, i_base, p12_readLawLine_J56, w0, su, r0, e0, m1_lt, ib_f]
end
