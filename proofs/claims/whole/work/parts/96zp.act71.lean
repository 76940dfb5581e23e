section
variable {g : Nat} {s s2 s3 : tS} {l : tL} {r : Nat → Nat} {C : Co} {G : Lg} {L2 : Lw} {p2 m : Nat} {I : Lnq} {D : Dq}
theorem inv_law (hk : Kept s) (hr : Rest s) (hcore : Core s2 C G L2) (hP : Past s2 r p2) (U : ∀ o, 56 ≤ o → o ≠ 287 → o ≠ 288 → s2 o = s o) (h18 : s2 18 = s 18) (h48 : s2 48 3 = s 48 3) (h52 : s2 52 3 = s 52 3) (z1 : s2 0 1 = 0) (z13 : s2 0 13 = s 0 13) (v6 : s2 287 6 = s 287 6) (v9 : s2 287 9 = 0) (hf : s2 0 2 = s2 287 14) : INV s2 r :=
  ⟨C, G, L2, 0, p2, hcore, ⟨Nat.zero_le _, z1, v9, fun j hj => absurd hj (Nat.not_lt_zero j)⟩, hP, hk.fr z13 v6 (fun o a b => U o (by omega) (by omega) (by omega)) (U 289 (by decide) (by decide) (by decide)), hr.1.rs h18, hr.2.1.rs (U 83 (by decide) (by decide) (by decide)), hr.2.2.1.rs (U 98 (by decide) (by decide) (by decide)), hf, h48.trans hr.2.2.2.2.1, h52.trans hr.2.2.2.2.2⟩
/-! the law that was read -/
def lwF (I : Lnq) (D : Dq) : Lw := (lnK I, lnA I, lnBq I, lnE I, dqO D, dqV D, lnC I, true)
theorem lwF_V (h : VLn I D) (hz : dqZ D ≤ 400) : VL (lwF I D) := ⟨h.1, fun h => (by cases h), fun i hi => by
  obtain ⟨a1, a2, a3, a4, a5, a6⟩ := h.2 i hi
  exact ⟨a1, a2, a3, a4, Nat.le_trans a5 hz, a6⟩⟩
theorem lwF_C (hl : LnC s I) (hd : DqC s D) (hV : VLn I D) : LIs s 39 (lwF I D) := ⟨hl.1, fun i hi => by
  obtain ⟨a1, a2, a3, a4⟩ := hl.2 i hi
  obtain ⟨b1, b2, b3, b4, b5, b6⟩ := hV.2 i hi
  refine ⟨a1, a2, a3, a4, fun j x y => ?_⟩
  have y' : j < lnE I i := y
  exact hd.2 j (by omega)⟩
theorem lwF_M {w : Nat → Int32} (hw : ∀ k, 445 < k → k < 1294 → w k = s 288 (849 + k)) (h2 : w 2 = 1) (hc : w 445 = Int32.ofNat (lnC I)) (hl : LnM s I) (hd : DqM s D) (hV : VLn I D) (hz : dqZ D ≤ 400) : LMw w (lwF I D) := by
  refine ⟨h2, fun _ => hc, fun i hi => ?_⟩
  have h12 := hV.1
  have hi' : i < lnC I := hi
  obtain ⟨a1, a2, a3, a4⟩ := hl i hi'
  obtain ⟨b1, b2, b3, b4, b5, b6⟩ := hV.2 i hi'
  refine ⟨?_, ?_, ?_, ?_, fun j x y => ?_⟩
  · rw [hw _ (by omega) (by omega), show 849 + (446 + 4 * i) = 1295 + 4 * i by omega]
    exact a1
  · rw [hw _ (by omega) (by omega), show 849 + (446 + 4 * i + 1) = 1295 + 4 * i + 1 by omega]
    exact a2
  · rw [hw _ (by omega) (by omega), show 849 + (446 + 4 * i + 2) = 1295 + 4 * i + 2 by omega]
    exact a3
  · rw [hw _ (by omega) (by omega), show 849 + (446 + 4 * i + 3) = 1295 + 4 * i + 3 by omega]
    exact a4
  · have y' : j < lnE I i := y
    rw [hw (494 + 2 * j) (by omega) (by omega), hw (494 + 2 * j + 1) (by omega) (by omega), show 849 + (494 + 2 * j) = 1343 + 2 * j by omega, show 849 + (494 + 2 * j + 1) = 1343 + 2 * j + 1 by omega]
    exact hd.2 j (by omega)
/-! the reference's LAW around its reading -/
theorem m_lawcp {x1 : Int32} : p12_law_L52 gF (ob g 287) x1 0 (mm g s l r) = some (x1, mm g (up2 (up2 (cpS s 288 445 288 1294 849) 288 2 1) 287 7 0) l r) := by
  obtain ⟨m, hm⟩ := cp_all (g := g) (l := l) (r := r) (s := s) (d := 288) (od := 445) (c := 288) (oc := 1294) (Or.inr (by decide)) (fun n i M => p12_law_L52 n (ob g 287) x1 i M) 849 (by decide) (fun n i s hi => by
    have c : Int32.ofNat i < 849 := (i_lt (b := 849) (by omega) (by decide)).mpr hi
    have e1 : (1294 : Int32) + Int32.ofNat i = Int32.ofNat (1294 + i) := by
      show Int32.ofNat 1294 + _ = _
      rw [i_add]
    have e2 : (445 : Int32) + Int32.ofNat i = Int32.ofNat (445 + i) := by
      show Int32.ofNat 445 + _ = _
      rw [i_add]
    simp only [p12_law_L52, c, if_true, w_R1, obs, e1, w_ald (show 1294 + i < 2143 by omega), e2, w_ast (show 445 + i < 2143 by omega), i_succ])
  have c : ¬ Int32.ofNat 849 < 849 := by decide
  have w2 : ∀ {s : tS} {v : Int32}, astI (mm g s l r) (ob g 288) 2 v = some (mm g (up2 s 288 2 v) l r) := w_ast (k := 2) (by decide)
  refine Eq.trans hm ?_
  show p12_law_L52 (m + 1) (ob g 287) x1 (Int32.ofNat 849) (mm g (cpS s 288 445 288 1294 849) l r) = _
  rw [p12_law_L52, if_neg c]
  simp only [w_R1, obs, w2, w_putI]
theorem m_law_f (h : p12_readAll (ob g 287) 0 (mm g s l r) = some (-1, mm g s3 l r)) : p12_law (ob g 287) (mm g s l r) = some (0, mm g (up2 (up2 s3 287 14 (s3 287 12)) 287 0 1) l r) := by
  rw [p12_law, w_gd]
  simp only [h, obs, m1_lt, if_true, w_getI, p12_law_J19, w_putI, p12_law_J32, p12_throwsIf, w_gd, one_z, if_false, p12_throwsIf_J9, bZ_1]
theorem m_law_t (h : p12_readAll (ob g 287) 0 (mm g s l r) = some (Int32.ofNat m, mm g s3 l r)) (hm : m < 100) : p12_law (ob g 287) (mm g s l r) = some (Int32.ofNat m, mm g (up2 (up2 (cpS (up2 (up2 s3 287 14 (-1)) 288 1294 (Int32.ofNat m)) 288 445 288 1294 849) 288 2 1) 287 7 0) l r) := by
  have c : (Int32.ofNat m < 0) = False := eq_false (i_nlt0 (by omega))
  have w1294 : ∀ {s : tS} {v : Int32}, astI (mm g s l r) (ob g 288) 1294 v = some (mm g (up2 s 288 1294 v) l r) := w_ast (k := 1294) (by decide)
  rw [p12_law, w_gd]
  simp only [h, obs, c, if_false, p12_law_J19, w_putI, p12_law_J32, p12_throwsIf, w_gd, if_true, p12_throwsIf_J9, bZ_0, w_R1, w1294, m_lawcp]
theorem op_law : Op g H_law (fun M => p11_law (ob g 0) M) (fun M => p12_law (ob g 287) M) := by
  intro s l r hI
  obtain ⟨C, G, L, n, p, hc, ht, hp, hk, hr⟩ := id hI
  obtain ⟨t1, t2, t3, t4⟩ := id ht
  have eb : p4_begin (ob g 39) (mm g s l r) = some (mm g (up2 (up2 s 39 8 0) 39 9 0) l r) := by simp only [p4_begin, l_gd m39, l_P m39, obs]
  have t2' : up2 (up2 s 39 8 0) 39 9 0 0 1 = Int32.ofNat n := by rw [up2_ne (by omega), up2_ne (by omega)]; exact t2
  have eu : p11_usedTape (ob g 0) (mm g (up2 (up2 s 39 8 0) 39 9 0) l r) = some (Int32.ofNat n, mm g (up2 (up2 (up2 s 39 8 0) 39 9 0) 0 1 0) l r) := by simp only [p11_usedTape, a_gd, a_I, a_P, obs, t2']
  have o0 : ∀ o j, ¬ (o = 39 ∧ (j = 8 ∨ j = 9)) → ¬ (o = 0 ∧ j = 1) → up2 (up2 (up2 s 39 8 0) 39 9 0) 0 1 0 o j = s o j := fun o j a b => by
    rw [up2_ne (by omega), up2_ne (by omega), up2_ne (by omega)]
  have hT : CT (up2 (up2 (up2 s 39 8 0) 39 9 0) 0 1 0) n (ub s) := ⟨t1, fun j hj => by rw [o0 1 j (by omega) (by omega)]; exact ⟨(tape_u ht hj).2.1, (tape_u ht hj).1⟩⟩
  obtain ⟨ok, I', D', f, ⟨s4, e4, F4, q4⟩, hm, hv, hf⟩ := jn_text (g := g) (l := l) (r := r) hT (by rw [o0 52 3 (by omega) (by omega)]; exact hr.2.2.2.2.2) (by rw [up2_ne (by omega), up2_ne (by omega), up2_eq]) (by rw [up2_ne (by omega), up2_eq])
  have A4 : ∀ o j, ¬ (39 ≤ o ∧ o ≤ 45) → ¬ (o = 52 ∧ 4 ≤ j ∧ j ≤ 7) → ¬ (53 ≤ o ∧ o ≤ 55) → ¬ (o = 0 ∧ j = 1) → s4 o j = s o j := fun o j a b c d => by
    rw [F4 o j a b c, o0 o j (by omega) d]
  have h1 : s4 0 1 = 0 := by rw [F4 0 1 (by omega) (by omega) (by omega), up2_eq]
  have ref : ∀ (X : tS) (l : tL) (r : Nat → Nat), X 287 9 = s 287 9 → X 293 = s 293 → ∃ s', p12_readAll (ob g 287) 0 (mm g X l r) = some (if ok = true then Int32.ofNat (lnC I') else -1, mm g s' l r) ∧ mUq X s' ∧ s' 287 0 = 0 ∧ s' 287 9 = 0 ∧ (ok = true → LnM s' I' ∧ DqM s' D') ∧ (ok = false → s' 287 12 = Int32.ofNat f) := fun X l r x2 x3 => hm X l r (by rw [x2]; exact t3) (fun j hj => by rw [x3]; exact (tape_u ht hj).2.2)
  cases ok with
  | false =>
    obtain ⟨s3, e3, F3, z0, z9, -, z12⟩ := ref (up2 s4 0 2 (Int32.ofNat f)) l r (by rw [up2_ne (by omega), A4 287 9 (by omega) (by omega) (by omega) (by omega)]) (funext fun j => by rw [up2_ne (by omega), A4 293 j (by omega) (by omega) (by omega) (by omega)])
    have z12 := z12 rfl
    have t1' := t1
    have fm : (Int32.ofNat f = -1) = False := eq_false (fun h => by
      have h2 := congrArg Int32.toInt h
      rw [i_toInt (by omega)] at h2
      have : (-1 : Int32).toInt = -1 := by decide
      omega)
    have e3' : p12_readAll (ob g 287) 0 (mm g (up2 s4 0 2 (Int32.ofNat f)) l r) = some (-1, mm g s3 l r) := e3
    have A : ∀ o j, ¬ (39 ≤ o ∧ o ≤ 45) → ¬ (o = 52 ∧ 4 ≤ j ∧ j ≤ 7) → ¬ (53 ≤ o ∧ o ≤ 55) → ¬ (o = 0 ∧ (j = 1 ∨ j = 2)) → ¬ (o = 287 ∧ (j = 0 ∨ (9 ≤ j ∧ j ≤ 14) ∨ j = 16)) → ¬ (o = 288 ∧ 1294 ≤ j) → up2 (up2 s3 287 14 (s3 287 12)) 287 0 1 o j = s o j := fun o j a b c d e f' => by
      rw [up2_ne (by omega), up2_ne (by omega), F3 o j f' (by omega), up2_ne (by omega), A4 o j a b c (by omega)]
    have U : ∀ o, o ≠ 0 → o ≠ 287 → o ≠ 288 → ¬ (39 ≤ o ∧ o ≤ 55) → up2 (up2 s3 287 14 (s3 287 12)) 287 0 1 o = s o := fun o a b c d => funext fun j => A o j (by omega) (by omega) (by omega) (by omega) (by omega) (by omega)
    have hf2 : up2 (up2 s3 287 14 (s3 287 12)) 287 0 1 0 2 = up2 (up2 s3 287 14 (s3 287 12)) 287 0 1 287 14 := by
      rw [up2_ne (by omega), up2_ne (by omega), F3 0 2 (by omega) (by omega), up2_eq, up2_ne (by omega), up2_eq, z12]
    have h01 : up2 (up2 s3 287 14 (s3 287 12)) 287 0 1 0 1 = 0 := by
      rw [up2_ne (by omega), up2_ne (by omega), F3 0 1 (by omega) (by omega), up2_ne (by omega)]
      exact h1
    have h09 : up2 (up2 s3 287 14 (s3 287 12)) 287 0 1 287 9 = 0 := by
      rw [up2_ne (by omega), up2_ne (by omega)]
      exact z9
    refine Or.inl ⟨0, up2 s4 0 2 (Int32.ofNat f), r, _, 0, ?_, by decide, m_law_f e3', ?_, inv_law hk hr (C := C) (G := G) (L2 := L) (p2 := p) ⟨hc.1.rs (fun o a b => U o (by omega) (by omega) (by omega) (by omega)) (fun j hj => A 288 j (by omega) (by omega) (by omega) (by omega) (by omega) (by omega)), hc.2.rs (fun o a b => U o (by omega) (by omega) (by omega) (by omega)) (fun j a b => A 288 j (by omega) (by omega) (by omega) (by omega) (by omega) (by omega))⟩ (hp.fr (A 0 10 (by omega) (by omega) (by omega) (by omega) (by omega) (by omega)) (A 287 7 (by omega) (by omega) (by omega) (by omega) (by omega) (by omega)) (A 288 2 (by omega) (by omega) (by omega) (by omega) (by omega) (by omega)) (fun o ho => U o (by unfold inP at ho; omega) (by unfold inP at ho; omega) (by unfold inP at ho; omega) (by unfold inP at ho; omega)) (U 292 (by decide) (by decide) (by decide) (by omega))) (fun o a b c => U o (by omega) b c (by omega)) (U 18 (by decide) (by decide) (by decide) (by omega)) (A 48 3 (by omega) (by omega) (by omega) (by omega) (by omega) (by omega)) (A 52 3 (by omega) (by omega) (by omega) (by omega) (by omega) (by omega)) h01 (A 0 13 (by omega) (by omega) (by omega) (by omega) (by omega) (by omega)) (A 287 6 (by omega) (by omega) (by omega) (by omega) (by omega) (by omega)) h09 hf2⟩
    · simp only [p11_law, a_gd, a_R6, obs, eb, a_R8, a_R0, eu, e4, Bool.false_eq_true, if_false, if_true, a_P, a_I, up2_eq, fm, thr, mm_X]
    · rw [up2_eq]
      rfl
  | true =>
    obtain ⟨V1, hz4⟩ := hv rfl
    obtain ⟨L4, D4⟩ := q4 rfl
    have hV' := lwF_V V1 hz4
    have Li4 : LIs (up2 s4 0 2 (-1)) 39 (lwF I' D') := by
      have h := lwF_C L4 D4 V1
      obtain ⟨x1, x2⟩ := h
      refine ⟨by rw [up2_ne (by omega)]; exact x1, fun i hi => ?_⟩
      obtain ⟨y1, y2, y3, y4, y5⟩ := x2 i hi
      refine ⟨by rw [up2_ne (by omega)]; exact y1, by rw [up2_ne (by omega)]; exact y2, by rw [up2_ne (by omega)]; exact y3, by rw [up2_ne (by omega)]; exact y4, fun j a b => ?_⟩
      rw [up2_ne (by omega), up2_ne (by omega)]
      exact y5 j a b
    obtain ⟨s5, e5, L5, f5⟩ := c_ltake (g := g) (l := l) (r := r) m30 m39 (by decide) Li4 hV'
    have A6 : ∀ o j, ¬ (30 ≤ o ∧ o < 37) → ¬ (39 ≤ o ∧ o ≤ 45) → ¬ (o = 52 ∧ 4 ≤ j ∧ j ≤ 7) → ¬ (53 ≤ o ∧ o ≤ 55) → ¬ (o = 0 ∧ (j = 1 ∨ j = 2 ∨ j = 10)) → up2 s5 0 10 0 o j = s o j := fun o j a b c d e => by
      rw [up2_ne (by omega), f5 o (by omega), up2_ne (by omega), A4 o j b c d (by omega)]
    have e9 : up2 s5 0 10 0 30 9 = Int32.ofNat (lnC I') := by
      rw [up2_ne (by omega)]
      exact L5.1
    have hm12 : lnC I' < 100 := by have := V1.1; omega
    refine Or.inr ⟨Int32.ofNat (lnC I'), up2 s5 0 10 0, r, ?_, fun l1 => ?_⟩
    · simp only [p11_law, a_gd, a_R6, obs, eb, a_R8, a_R0, eu, e4, if_true, a_P, a_I, up2_eq, a_R5, e5, l_I m30, e9, xr, Option.map_some]
    · obtain ⟨s3, e3, F3, z0, z9, zM, -⟩ := ref (up2 s5 0 10 0) l1 r (A6 287 9 (by omega) (by omega) (by omega) (by omega) (by omega)) (funext fun j => A6 293 j (by omega) (by omega) (by omega) (by omega) (by omega))
      obtain ⟨M3, D3⟩ := zM rfl
      have e3' : p12_readAll (ob g 287) 0 (mm g (up2 s5 0 10 0) l1 r) = some (Int32.ofNat (lnC I'), mm g s3 l1 r) := e3
      obtain ⟨S, hS⟩ : ∃ S, S = up2 (up2 (cpS (up2 (up2 s3 287 14 (-1)) 288 1294 (Int32.ofNat (lnC I'))) 288 445 288 1294 849) 288 2 1) 287 7 0 := ⟨_, rfl⟩
      have So : ∀ o j, o ≠ 288 → ¬ (o = 287 ∧ (j = 14 ∨ j = 7)) → S o j = s3 o j := fun o j a b => by
        rw [hS, up2_ne (by omega), up2_ne (by omega), cpS_ne a, up2_ne (by omega), up2_ne (by omega)]
      have Sl : ∀ k, k < 445 → k ≠ 2 → S 288 k = s3 288 k := fun k a b => by
        rw [hS, up2_ne (by omega), up2_ne (by omega), cpS_v, if_neg (by omega), up2_ne (by omega), up2_ne (by omega)]
      have Sh : ∀ k, 445 < k → k < 1294 → S 288 k = s3 288 (849 + k) := fun k a b => by
        rw [hS, up2_ne (by omega), up2_ne (by omega), cpS_v, if_pos (by omega), up2_ne (by omega), up2_ne (by omega), show 1294 + (k - 445) = 849 + k by omega]
      have S5 : S 288 445 = Int32.ofNat (lnC I') := by
        rw [hS, up2_ne (by omega), up2_ne (by omega), cpS_v, if_pos (by omega)]
        exact up2_eq
      have S2 : S 288 2 = 1 := by rw [hS, up2_ne (by omega), up2_eq]
      have S7 : S 287 7 = 0 := by rw [hS, up2_eq]
      have S14 : S 287 14 = -1 := by rw [hS, up2_ne (by omega), up2_ne (by omega), cpS_ne (by decide), up2_ne (by omega), up2_eq]
      have T : ∀ o j, ¬ (30 ≤ o ∧ o < 37) → ¬ (39 ≤ o ∧ o ≤ 45) → ¬ (o = 52 ∧ 4 ≤ j ∧ j ≤ 7) → ¬ (53 ≤ o ∧ o ≤ 55) → ¬ (o = 0 ∧ (j = 1 ∨ j = 2 ∨ j = 10)) → o ≠ 288 → ¬ (o = 287 ∧ (j = 0 ∨ j = 7 ∨ (9 ≤ j ∧ j ≤ 14) ∨ j = 16)) → S o j = s o j := fun o j a b c d e f' h => by
        rw [So o j f' (by omega), F3 o j (by omega) (by omega), A6 o j a b c d e]
      have U : ∀ o, o ≠ 0 → o ≠ 287 → o ≠ 288 → ¬ (30 ≤ o ∧ o ≤ 55) → S o = s o := fun o a b c d => funext fun j => T o j (by omega) (by omega) (by omega) (by omega) (by omega) c (by omega)
      have W : ∀ k, k < 445 → k ≠ 2 → S 288 k = s 288 k := fun k a b => by
        rw [Sl k a b, F3 288 k (by omega) (by omega), A6 288 k (by omega) (by omega) (by omega) (by omega) (by omega)]
      have Sc : ∀ o, 30 ≤ o → o < 37 → S o = s5 o := fun o a b => funext fun j => by
        rw [So o j (by omega) (by omega), F3 o j (by omega) (by omega), up2_ne (by omega)]
      obtain ⟨h1', h2', h3', h4', h5', h6'⟩ := hc.1
      have fS : Fr (fun o => o < 2 ∨ 16 ≤ o) s S := fun o ho => U o (by omega) (by omega) (by omega) (by omega)
      have cM : Mw (S 288) C := by
        obtain ⟨y1, y2, y3⟩ := h3'
        have := y1.2
        exact ⟨y1, fun j a b c => (W j (by omega) b).trans (y2 j a b c), fun i j a b => (W _ (by omega) (by omega)).trans (y3 i j a b)⟩
      have cL : LIs S 30 (lwF I' D') := by
        obtain ⟨x1, x2⟩ := L5
        refine ⟨by rw [Sc 30 (by decide) (by decide)]; exact x1, fun i hi => ?_⟩
        rw [Sc (30 + 1) (by decide) (by decide), Sc (30 + 2) (by decide) (by decide), Sc (30 + 3) (by decide) (by decide), Sc (30 + 4) (by decide) (by decide), Sc (30 + 5) (by decide) (by decide), Sc (30 + 6) (by decide) (by decide)]
        exact x2 i hi
      have ef := m_law_t e3' hm12
      rw [← hS] at ef
      refine ⟨S, ef, ?_, inv_law hk hr (C := C) (G := G) (L2 := lwF I' D') (p2 := 0) ⟨⟨h1'.fr fS (fun o ho => ho), h2'.fr fS (by omega) (by omega), cM, h4'.c7 (fun j a b => W j a (by omega)), h5', h6'⟩, ⟨cL, lwF_M Sh S2 S5 M3 D3 V1 hz4, hV'⟩⟩ (Past.zero (Or.inr ⟨p, hp⟩) ?_ S7 (fun o ho => U o (by unfold inP at ho; omega) (by unfold inP at ho; omega) (by unfold inP at ho; omega) (by unfold inP at ho; omega))) (fun o a b c => U o (by omega) b c (by omega)) (U 18 (by decide) (by decide) (by decide) (by omega)) (T 48 3 (by omega) (by omega) (by omega) (by omega) (by omega) (by decide) (by omega)) (T 52 3 (by omega) (by omega) (by omega) (by omega) (by omega) (by decide) (by omega)) ?_ (T 0 13 (by omega) (by omega) (by omega) (by omega) (by omega) (by decide) (by omega)) (T 287 6 (by omega) (by omega) (by omega) (by omega) (by omega) (by decide) (by omega)) ?_ ?_⟩
      · rw [So 287 0 (by decide) (by omega)]
        exact z0
      · rw [So 0 10 (by decide) (by omega), F3 0 10 (by omega) (by omega), up2_eq]
      · rw [So 0 1 (by decide) (by omega), F3 0 1 (by omega) (by omega), up2_ne (by omega), f5 0 (by omega), up2_ne (by omega)]
        exact h1
      · rw [So 287 9 (by decide) (by omega)]
        exact z9
      · rw [S14, So 0 2 (by decide) (by omega), F3 0 2 (by omega) (by omega), up2_ne (by omega), f5 0 (by omega), up2_eq]
end
