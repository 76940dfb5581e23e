/-! guards: one person, two people -/
section
variable {g : Nat} {s : tS} {l : tL} {r : Nat → Nat} {b : Nat} {C : Co}
theorem a_be_f {x : Int32} (h : Is s 2 C) (hx : inR C x = false) {k : Nat} : p11_mustBe (ob g 0) x (mm g s l r) = some (.inl (2, mm g s l r)) := by
  simp only [p11_mustBe, a_gd, a_R3, obs, c_has h, hx, ib_f, if_true, thr, mm_X]
theorem a_be_t {x : Int32} (h : Is s 2 C) (hx : inR C x = true) : p11_mustBe (ob g 0) x (mm g s l r) = some (.inr ()) := by
  simp only [p11_mustBe, a_gd, a_R3, obs, c_has h, hx, ib_t, one_z, if_false, xr, Option.map_some]
theorem m_th0 {v : Int32} : p12_throwsIf (ob g 287) 0 v (mm g s l r) = some (0, mm g s l r) := by
  simp only [p12_throwsIf, w_gd, if_true, p12_throwsIf_J9, p12_throwsIf, bZ_0, obs]
theorem m_th1 {v : Int32} : p12_throwsIf (ob g 287) 1 v (mm g s l r) = some (1, mm g (up2 s 287 0 v) l r) := by
  simp only [p12_throwsIf, w_gd, one_z, if_false, w_putI, p12_throwsIf_J9, p12_throwsIf, bZ_1, obs]
theorem m_nob_f {x : Int32} (h : Ms s C) (hx : inR C x = false) : p12_nobody (ob g 287) x (mm g s l r) = some 1 := by rw [m_nobody h, hx]; rfl
theorem m_nob_t {x : Int32} (h : Ms s C) (hx : inR C x = true) : p12_nobody (ob g 287) x (mm g s l r) = some 0 := by rw [m_nobody h, hx]; rfl
theorem a_two_1 {x y : Int32} (h : Is s 2 C) (hx : inR C x = false) : p11_mustBeTwo (ob g 0) x y (mm g s l r) = some (.inl (2, mm g s l r)) := by
  simp only [p11_mustBeTwo, a_gd, a_be_f (k := 0) h hx, xb]
theorem a_two_2 {x y : Int32} (h : Is s 2 C) (hx : inR C x = true) (hy : inR C y = false) : p11_mustBeTwo (ob g 0) x y (mm g s l r) = some (.inl (2, mm g s l r)) := by
  simp only [p11_mustBeTwo, a_gd, a_be_t h hx, a_be_f (k := 0) h hy, xb]
theorem a_two_3 {x : Int32} (h : Is s 2 C) (hx : inR C x = true) : p11_mustBeTwo (ob g 0) x x (mm g s l r) = some (.inl (0, mm g s l r)) := by
  simp only [p11_mustBeTwo, a_gd, a_be_t h hx, xb, if_true, thr, mm_X]
theorem a_two_4 {x y : Int32} (h : Is s 2 C) (hx : inR C x = true) (hy : inR C y = true) (hn : x ≠ y) : p11_mustBeTwo (ob g 0) x y (mm g s l r) = some (.inr ()) := by
  simp only [p11_mustBeTwo, a_gd, a_be_t h hx, a_be_t h hy, xb, hn, if_false, xr, Option.map_some]
theorem m_two_1 {x y : Int32} (h : Ms s C) (hx : inR C x = false) : p12_noTwo (ob g 287) x y (mm g s l r) = some (1, mm g (up2 (up2 s 287 0 0) 287 0 1) l r) := by
  have hM := h.up (o := 287) (k := 0) (v := 0) (by decide)
  simp only [p12_noTwo, w_gd, w_putI, obs, m_nob_f hM hx, one_z, if_false, p12_noTwo_J57, p12_noTwo_J52, p12_noTwo_J45, p12_noTwo_J27, p12_noTwo_J22, p12_noTwo, m_th1, bZ_1]
theorem m_two_2 {x y : Int32} (h : Ms s C) (hx : inR C x = true) (hy : inR C y = false) : p12_noTwo (ob g 287) x y (mm g s l r) = some (1, mm g (up2 (up2 s 287 0 0) 287 0 1) l r) := by
  have hM := h.up (o := 287) (k := 0) (v := 0) (by decide)
  simp only [p12_noTwo, w_gd, w_putI, obs, m_nob_t hM hx, m_nob_f hM hy, if_true, one_z, if_false, p12_noTwo_J57, p12_noTwo_J52, p12_noTwo_J45, p12_noTwo_J27, p12_noTwo_J22, p12_noTwo, m_th1, bZ_1]
theorem m_two_3 {x : Int32} (h : Ms s C) (hx : inR C x = true) : p12_noTwo (ob g 287) x x (mm g s l r) = some (1, mm g (up2 (up2 s 287 0 0) 287 0 2) l r) := by
  have hM := h.up (o := 287) (k := 0) (v := 0) (by decide)
  simp only [p12_noTwo, w_gd, w_putI, obs, m_nob_t hM hx, if_true, one_z, if_false, p12_noTwo_J57, p12_noTwo_J52, p12_noTwo_J45, p12_noTwo_J27, p12_noTwo_J22, p12_noTwo, m_th0, m_th1, bZ_1]
theorem m_two_4 {x y : Int32} (h : Ms s C) (hx : inR C x = true) (hy : inR C y = true) (hn : x ≠ y) : p12_noTwo (ob g 287) x y (mm g s l r) = some (0, mm g (up2 s 287 0 0) l r) := by
  have hM := h.up (o := 287) (k := 0) (v := 0) (by decide)
  simp only [p12_noTwo, w_gd, w_putI, obs, m_nob_t hM hx, m_nob_t hM hy, if_true, hn, if_false, p12_noTwo_J57, p12_noTwo_J52, p12_noTwo_J45, p12_noTwo_J27, p12_noTwo_J22, p12_noTwo, m_th0, bZ_0]
theorem m287 (h : Ms s C) {v : Int32} : Ms (up2 s 287 0 v) C := h.up (by decide)
theorem l287 {L : Lw} (h : LMs s L) {v : Int32} : LMs (up2 s 287 0 v) L := h.fr (P := fun o => o = 287) (Fr.up rfl) (fun o ho => by omega)
/-- a call of one person that changes nothing -/
theorem opP1 {x : Int32} {H : Nat → Int32} {E : mMem → Option ((Nat × mMem) ⊕ (Int32 × mMem))} {Q : mMem → Option (Int32 × mMem)} (hH : H 2 = 1)
    (hE : ∀ (s : tS) (l : tL) (r : Nat → Nat), p11_mustBe (ob g 0) x (mm g s l r) = some (.inl (2, mm g s l r)) → E (mm g s l r) = some (.inl (2, mm g s l r)))
    (hQ : ∀ (s : tS) (l : tL) (r : Nat → Nat), p12_nobody (ob g 287) x (mm g (up2 s 287 0 0) l r) = some 1 → ∃ w, Q (mm g s l r) = some (w, mm g (up2 (up2 s 287 0 0) 287 0 1) l r))
    (hG : ∀ (s : tS) (l : tL) (r : Nat → Nat) (C : Co) (G : Lg) (L : Lw) (i : Nat), Core s C G L → Rest s → i < sz C → x = Int32.ofNat i → p11_mustBe (ob g 0) x (mm g s l r) = some (.inr ()) → (∃ e, E (mm g s l r) = some (.inl (e, mm g s l r)) ∧ H e ≠ 0 ∧ ∃ w s2, Q (mm g s l r) = some (w, mm g s2 l r) ∧ RS s s2 ∧ s2 287 0 = H e) ∨ ∃ v s1, E (mm g s l r) = some (.inr (v, mm g s1 l r)) ∧ RS s s1 ∧ ∀ l1 : tL, Core s1 C G L → p12_nobody (ob g 287) x (mm g (up2 s1 287 0 0) l1 r) = some 0 → ∃ s2, Q (mm g s1 l1 r) = some (v, mm g s2 l1 r) ∧ RS s1 s2 ∧ s2 287 0 = 0) : Op g H E Q := by
  intro s l r hI
  obtain ⟨C, G, L, n, p, hc, ht, hp, hk, hr⟩ := id hI
  have h1 := hc.1.1
  have h3 := hc.1.2.2.1
  rcases Bool.eq_false_or_eq_true (inR C x) with hx | hx
  · obtain ⟨i, hi, rfl⟩ := inR_i h1.2.1 hx
    rcases hG s l r C G L i hc hr hi rfl (a_be_t h1 hx) with ⟨e, e1, e2, w, s2, e3, e4, e5⟩ | ⟨v, s1, e1, e2, e3⟩
    · exact Or.inl ⟨e, s, r, s2, w, e1, e2, e3, e5, hI.rs e4⟩
    · refine Or.inr ⟨v, s1, r, e1, fun l1 => ?_⟩
      have hc1 := hc.rs e2
      obtain ⟨s2, f1, f2, f3⟩ := e3 l1 hc1 (m_nob_t (m287 hc1.1.2.2.1 (v := 0)) hx)
      exact ⟨s2, f1, f3, (hI.rs e2).rs f2⟩
  · obtain ⟨w, hw⟩ := hQ s l r (m_nob_f (m287 h3 (v := 0)) hx)
    exact Or.inl ⟨2, s, r, _, w, hE s l r (a_be_f (k := 0) h1 hx), by rw [hH]; decide, hw, by rw [hH, up2_eq], hI.rs rs_thr2⟩
/-- a call of two people that changes nothing -/
theorem opT {x y : Int32} {H : Nat → Int32} {E : mMem → Option ((Nat × mMem) ⊕ (Int32 × mMem))} {Q : mMem → Option (Int32 × mMem)} (hH : H 2 = 1) (hH0 : H 0 = 2)
    (hE : ∀ (s : tS) (l : tL) (r : Nat → Nat) (e : Nat), p11_mustBeTwo (ob g 0) x y (mm g s l r) = some (.inl (e, mm g s l r)) → E (mm g s l r) = some (.inl (e, mm g s l r)))
    (hQ : ∀ (s s1 : tS) (l : tL) (r : Nat → Nat), p12_noTwo (ob g 287) x y (mm g s l r) = some (1, mm g s1 l r) → ∃ w, Q (mm g s l r) = some (w, mm g s1 l r))
    (hG : ∀ (s : tS) (l : tL) (r : Nat → Nat) (C : Co) (G : Lg) (L : Lw) (i j : Nat), Core s C G L → Rest s → i < sz C → j < sz C → i ≠ j → x = Int32.ofNat i → y = Int32.ofNat j → p11_mustBeTwo (ob g 0) x y (mm g s l r) = some (.inr ()) → (∀ (s1 : tS) (l1 : tL), Core s1 C G L → p12_noTwo (ob g 287) x y (mm g s1 l1 r) = some (0, mm g (up2 s1 287 0 0) l1 r)) → (∃ e, E (mm g s l r) = some (.inl (e, mm g s l r)) ∧ H e ≠ 0 ∧ ∃ w s2, Q (mm g s l r) = some (w, mm g s2 l r) ∧ RS s s2 ∧ s2 287 0 = H e) ∨ ∃ v s1, E (mm g s l r) = some (.inr (v, mm g s1 l r)) ∧ RS s s1 ∧ ∀ l1 : tL, Core s1 C G L → p12_noTwo (ob g 287) x y (mm g s1 l1 r) = some (0, mm g (up2 s1 287 0 0) l1 r) → ∃ s2, Q (mm g s1 l1 r) = some (v, mm g s2 l1 r) ∧ RS s1 s2 ∧ s2 287 0 = 0) : Op g H E Q := by
  intro s l r hI
  obtain ⟨C, G, L, n, p, hc, ht, hp, hk, hr⟩ := id hI
  have h1 := hc.1.1
  have h3 := hc.1.2.2.1
  rcases Bool.eq_false_or_eq_true (inR C x) with hx | hx
  · rcases Bool.eq_false_or_eq_true (inR C y) with hy | hy
    · by_cases hn : x = y
      · subst hn
        obtain ⟨w, hw⟩ := hQ s _ l r (m_two_3 h3 hx)
        exact Or.inl ⟨0, s, r, _, w, hE s l r 0 (a_two_3 h1 hx), by rw [hH0]; decide, hw, by rw [hH0, up2_eq], hI.rs rs_thr2⟩
      · have t2 : ∀ (s1 : tS) (l1 : tL), Core s1 C G L → p12_noTwo (ob g 287) x y (mm g s1 l1 r) = some (0, mm g (up2 s1 287 0 0) l1 r) := fun s1 l1 hc1 => m_two_4 hc1.1.2.2.1 hx hy hn
        have t1 := a_two_4 (g := g) (l := l) (r := r) h1 hx hy hn
        obtain ⟨i, hi, rfl⟩ := inR_i h1.2.1 hx
        obtain ⟨j, hj, rfl⟩ := inR_i h1.2.1 hy
        rcases hG s l r C G L i j hc hr hi hj (fun e => hn (by rw [e])) rfl rfl t1 t2 with ⟨e, e1, e2, w, s2, e3, e4, e5⟩ | ⟨v, s1, e1, e2, e3⟩
        · exact Or.inl ⟨e, s, r, s2, w, e1, e2, e3, e5, hI.rs e4⟩
        · refine Or.inr ⟨v, s1, r, e1, fun l1 => ?_⟩
          have hc1 := hc.rs e2
          obtain ⟨s2, f1, f2, f3⟩ := e3 l1 hc1 (t2 s1 l1 hc1)
          exact ⟨s2, f1, f3, (hI.rs e2).rs f2⟩
    · obtain ⟨w, hw⟩ := hQ s _ l r (m_two_2 h3 hx hy)
      exact Or.inl ⟨2, s, r, _, w, hE s l r 2 (a_two_2 h1 hx hy), by rw [hH]; decide, hw, by rw [hH, up2_eq], hI.rs rs_thr2⟩
  · obtain ⟨w, hw⟩ := hQ s _ l r (m_two_1 h3 hx)
    exact Or.inl ⟨2, s, r, _, w, hE s l r 2 (a_two_1 h1 hx), by rw [hH]; decide, hw, by rw [hH, up2_eq], hI.rs rs_thr2⟩
theorem rs_295 {s1 : tS} (h : Fr (fun a => a = 295) s s1) : RS s s1 := RS.of h (fun o ho j => by unfold scr; omega) (by omega) (by omega) (by omega)
theorem rs_inW {s1 : tS} (h : Fr inW s s1) : RS s s1 := RS.of h (fun o ho j => by unfold inW at ho; unfold scr; omega) (by unfold inW; omega) (by unfold inW; omega) (by unfold inW; omega)
/-! LENT, GAP, OWES, WEIGHS -/
theorem op_lent {x1 x2 : Int32} : Op g H_lent (fun M => (p11_lent (ob g 0) x1 x2 M).map (fun z => match z with | .inl e => .inl e | .inr v => .inr (v, M))) (fun M => p12_lent (ob g 287) x1 x2 M) := by
  refine opT (x := x1) (y := x2) (by decide) (by decide) (fun s l r e h => ?_) (fun s s1 l r h => ⟨0, ?_⟩) (fun s l r C G L i j hc hr hi hj hn ex ey h t => Or.inr ⟨C.2 i (9 + j), s, ?_, RS.refl, fun l1 hc1 h2 => ⟨up2 s 287 0 0, ?_, rs_thr, up2_eq⟩⟩)
  · simp only [p11_lent, a_gd, h, xb, Option.map_some]
  · simp only [p12_lent, w_gd, h, obs, one_z, if_false, p12_lent_J22, p12_lent]
  · subst ex ey
    simp only [p11_lent, a_gd, h, xb, a_R3, obs, c_lent hc.1.1 hi hj, xr, Option.map_some]
  · subst ex ey
    simp only [p12_lent, w_gd, h2, obs, if_true, m_ofL (m287 hc.1.2.2.1) hi (zc_8 hc.1.1.2.1 hj), p12_lent_J22, p12_lent]
theorem op_gap {x1 x2 : Int32} : Op g H_gap (fun M => (p11_gap (ob g 0) x1 x2 M).map (fun z => match z with | .inl e => .inl e | .inr v => .inr (v, M))) (fun M => p12_gap (ob g 287) x1 x2 M) := by
  refine opT (x := x1) (y := x2) (by decide) (by decide) (fun s l r e h => ?_) (fun s s1 l r h => ⟨0, ?_⟩) (fun s l r C G L i j hc hr hi hj hn ex ey h t => Or.inr ⟨gapF C i j, s, ?_, RS.refl, fun l1 hc1 h2 => ⟨up2 s 287 0 0, ?_, rs_thr, up2_eq⟩⟩)
  · simp only [p11_gap, a_gd, h, xb, Option.map_some]
  · simp only [p12_gap, w_gd, h, obs, one_z, if_false, p12_gap_J19, p12_gap]
  · subst ex ey
    simp only [p11_gap, a_gd, h, xb, a_R3, obs, c_gap hc.1.1 hi hj, xr, Option.map_some]
  · subst ex ey
    simp only [p12_gap, w_gd, h2, obs, if_true, m_gap (m287 hc.1.2.2.1) hi hj, p12_gap_J19, p12_gap]
theorem op_owes {x1 x2 : Int32} : Op g H_owes (fun M => (p11_owes (ob g 0) x1 x2 M).map (fun z => match z with | .inl e => .inl e | .inr v => .inr (v, M))) (fun M => p12_owes (ob g 287) x1 x2 M) := by
  refine opT (x := x1) (y := x2) (by decide) (by decide) (fun s l r e h => ?_) (fun s s1 l r h => ⟨0, ?_⟩) (fun s l r C G L i j hc hr hi hj hn ex ey h t => Or.inr ⟨maxI 0 (C.2 j (9 + i) - C.2 i (9 + j)), s, ?_, RS.refl, fun l1 hc1 h2 => ⟨up2 s 287 0 0, ?_, rs_thr, up2_eq⟩⟩)
  · simp only [p11_owes, a_gd, h, xb, Option.map_some]
  · simp only [p12_owes, w_gd, h, obs, one_z, if_false, p12_owes_J36, p12_owes]
  · subst ex ey
    simp only [p11_owes, a_gd, h, xb, a_R3, obs, c_lent hc.1.1 hi hj, c_lent hc.1.1 hj hi, xr, Option.map_some]
  · subst ex ey
    simp only [p12_owes, w_gd, h2, obs, if_true, m_ofL (m287 hc.1.2.2.1) hi (zc_8 hc.1.1.2.1 hj), m_ofL (m287 hc.1.2.2.1) hj (zc_8 hc.1.1.2.1 hi), p12_owes_J36, p12_owes]
theorem op_weighs {x1 x2 : Int32} {x3 : Bool} : Op g H_weighs (fun M => p11_weighs (ob g 0) x1 x2 (ib x3) M) (fun M => p12_weighs (ob g 287) x1 x2 (ib x3) M) := by
  refine opT (x := x1) (y := x2) (by decide) (by decide) (fun s l r e h => ?_) (fun s s1 l r h => ⟨0, ?_⟩) (fun s l r C G L i j hc hr hi hj hn ex ey h t => Or.inr ?_)
  · simp only [p11_weighs, a_gd, h, xb]
  · simp only [p12_weighs, w_gd, h, obs, one_z, if_false, p12_weighs_J20, p12_weighs]
  · subst ex ey
    have hC := hc.1.2.2.2.2.1
    have hr4 := vc_r hC
    obtain ⟨s1, e1, f1⟩ := c_wt (g := g) (l := l) (r := r) (y := x3) hc.1.1 hc.2.1 hc.2.2.2 (by omega) hi hj
    refine ⟨wtF L C i j x3, s1, ?_, rs_inW f1, fun l1 hc1 h2 => ?_⟩
    · simp only [p11_weighs, a_gd, h, xb, a_R3, a_R5, obs, e1, xr, Option.map_some]
    · obtain ⟨s2, e2, f2⟩ := m_wt (g := g) (l := l1) (r := r) (y := x3) (m287 hc1.1.2.2.1 (v := 0)) (l287 hc1.2.2.1) hc1.2.2.2 (by omega) hi hj
      refine ⟨s2, ?_, rs_thr.trans (rs_295 f2), ?_⟩
      · simp only [p12_weighs, w_gd, h2, obs, if_true, e2, p12_weighs_J20, p12_weighs]
      · rw [f2 287 (by decide), up2_eq]
theorem fw_pL {P : Nat → Prop} {s1 s2 : tS} (h : Fw P s1 s2) : s2 287 = s1 287 := h.1 287 (by decide) (by decide)
/-- the world is kept, changed and brought back -/
theorem rs_back {s1 : tS} (hf : Fw pL (cpS s 291 0 288 0 445) s1) : RS s (cpS s1 288 0 291 0 445) := by
  have h : ∀ o, o ≠ 288 → o ≠ 295 → o ≠ 291 → cpS s1 288 0 291 0 445 o = s o := fun o e e5 e1 => by rw [cpS_ne e, hf.1 o e e5, cpS_ne e1]
  refine ⟨fun o k ho => ?_, fun z => z.rs (h _ (by omega) (by omega) (by omega)), fun z => z.rs (h _ (by omega) (by omega) (by omega)), fun z => z.rs (h _ (by omega) (by omega) (by omega))⟩
  by_cases e : o = 288
  · subst e
    exact back_same hf k
  · rw [h o e (by unfold scr at ho; omega) (by unfold scr at ho; omega)]
theorem ms_keep (h : Ms s C) : Ms (cpS s 291 0 288 0 445) C := by
  show Mw (cpS s 291 0 288 0 445 288) C
  rw [cpS_ne (by decide)]
  exact h
theorem lms_keep {L : Lw} (h : LMs s L) : LMs (cpS s 291 0 288 0 445) L := by
  show LMw (cpS s 291 0 288 0 445 288) L
  rw [cpS_ne (by decide)]
  exact h
theorem lg_keep {G : Lg} (h : LgM (s 288) G) : LgM (cpS s 291 0 288 0 445 288) G := by
  rw [cpS_ne (by decide)]
  exact h
theorem op_would {x1 x2 : Int32} {x3 : Bool} : Op g H_would (fun M => p11_would (ob g 0) x1 x2 (ib x3) M) (fun M => p12_would (ob g 287) x1 x2 (ib x3) M) := by
  refine opT (x := x1) (y := x2) (by decide) (by decide) (fun s l r e h => ?_) (fun s s1 l r h => ⟨0, ?_⟩) (fun s l r C G L i j hc hr hi hj hn ex ey h t => Or.inr ?_)
  · simp only [p11_would, a_gd, h, xb]
  · simp only [p12_would, w_gd, h, obs, one_z, if_false]
  · subst ex ey
    have hC := hc.1.2.2.2.2.1
    have hr4 := vc_r hC
    obtain ⟨s1, e1, f1⟩ := c_wt (g := g) (l := l) (r := r) (y := x3) hc.1.1 hc.2.1 hc.2.2.2 (by omega) hi hj
    refine ⟨movedF C (C.2 j 0) (wtF L C i j x3) x3, s1, ?_, rs_inW f1, fun l1 hc1 h2 => ?_⟩
    · simp only [p11_would, a_gd, h, xb, a_R3, a_R5, obs, c_at hc.1.1 hj, c_p hc.1.1 hj (show 0 < 9 by decide), e1, c_moved (hc.1.1.frW f1), xr, Option.map_some]
    · obtain ⟨s2, e2, M2, f2⟩ := m_hears (g := g) (l := l1) (r := r) (y := x3) (ms_keep (m287 hc1.1.2.2.1 (v := 0))) (lms_keep (l287 hc1.2.2.1)) hc1.2.2.2 hC hi hj
      have ea : p12_of (ob g 287) (Int32.ofNat j) 0 (mm g s2 l1 r) = some (movedF C (C.2 j 0) (wtF L C i j x3) x3) := by
        rw [m_of0 M2 (i := j) hj]
        exact congrArg some up2_eq
      refine ⟨cpS s2 288 0 291 0 445, ?_, rs_thr.trans (rs_back (f2.mono (fun i hi => pCL hi))), ?_⟩
      · simp only [p12_would, w_gd, h2, obs, if_true, m_keeps, e2, ea, m_brings]
      · rw [cpS_ne (by decide), fw_pL f2, cpS_ne (by decide), up2_eq]
end
