section
variable {g : Nat} {s s' : tS} {l : tL} {r : Nat → Nat} {C : Co} {G : Lg} {L : Lw}
theorem LgM.c7 {w w' : Nat → Int32} {G : Lg} (h : LgM w G) (k : ∀ j, j < 445 → (j = 7 ∨ 145 ≤ j) → w' j = w j) : LgM w' G := by
  obtain ⟨h1, h2, h3⟩ := h
  exact ⟨(k 7 (by omega) (by omega)).trans h1, h2, fun i j a b => (k _ (by omega) (by omega)).trans (h3 i j a b)⟩
theorem Tape.fr {n : Nat} (h : Tape s n) (a : s' 0 1 = s 0 1) (b : s' 287 9 = s 287 9) (c : s' 1 = s 1) (d : s' 293 = s 293) : Tape s' n := by
  obtain ⟨h1, h2, h3, h4⟩ := h
  exact ⟨h1, a.trans h2, b.trans h3, fun j hj => by rw [c, d]; exact h4 j hj⟩
theorem Past.fr {p : Nat} (h : Past s r p) (a : s' 0 10 = s 0 10) (b : s' 287 7 = s 287 7) (c : s' 288 2 = s 288 2) (d : ∀ o, inP o → s' o = s o) (e : s' 292 = s 292) : Past s' r p := by
  obtain ⟨h1, h2, h3, h4, h5, h6⟩ := h
  refine ⟨h1, a.trans h2, b.trans h3, fun j hj => ⟨(h4 j hj).1, (h4 j hj).2.rs ?_⟩, h5, fun j hj => ?_⟩
  · have := (pBL_f _ (h4 j hj).1).2
    exact d _ (by unfold inP; omega)
  · obtain ⟨e2, C, G, hF⟩ := h6 j hj
    have := (pBL_f _ (h4 j (by omega)).1).2
    have er : rowJ s' j = rowJ s j := funext fun k => by unfold rowJ; rw [e]
    exact ⟨by rw [er, c]; exact e2, C, G, hF.rs (fun o a b => d o (by unfold inP; omega)) (fun i hi => by rw [er])⟩
theorem Kept.fr (h : Kept s) (a : s' 0 13 = s 0 13) (b : s' 287 6 = s 287 6) (c : ∀ o, 57 ≤ o → o < 78 → s' o = s o) (d : s' 289 = s 289) : Kept s' := by
  obtain ⟨h1, k, h2, h3, h4⟩ := h
  refine ⟨h1.rs (c 59 (by omega) (by omega)), k, a.trans h2, b.trans h3, fun hb => ?_⟩
  obtain ⟨C, G, L, hF, hL⟩ := h4 hb
  exact ⟨C, G, L, hF.rs (fun o a b => c o (by omega) (by omega)) (fun i hi => by rw [d]), hL.rs (fun o a b => c o (by omega) (by omega)) (fun i hi _ => by rw [d])⟩
theorem Rest.fr (h : Rest s) (a : s' 18 = s 18) (b : s' 83 = s 83) (c : s' 98 = s 98) (d : s' 0 2 = s 0 2) (e : s' 287 14 = s 287 14) (f : s' 48 3 = s 48 3) (f' : s' 52 3 = s 52 3) : Rest s' := by
  obtain ⟨h1, h2, h3, h4, h5, h6⟩ := h
  exact ⟨h1.rs a, h2.rs b, h3.rs c, by rw [d, e, h4], f.trans h5, f'.trans h6⟩
/-! SEED, END -/
theorem op_seed {x1 : Int32} : Dir g (fun M => p11_seed (ob g 0) x1 M) (fun M => p12_seed (ob g 287) x1 M) := by
  intro s l r hI
  obtain ⟨C, G, L, n, p, ⟨⟨h1, h2, h3, h4, h5, h6⟩, hL⟩, ht, hp, hk, hr⟩ := id hI
  have I2 := h1.setG (k := 9) (v := x1) (by decide) (by decide)
  have w8 : ∀ {s : tS} {v : Int32}, astI (mm g s l r) (ob g 288) 8 v = some (mm g (up2 s 288 8 v) l r) := w_ast (k := 8) (by decide)
  have h3' : Ms s C := h3
  have hM' : Ms (up2 (up2 s 2 9 x1) 287 0 0) C := m287 (h3'.up (by decide))
  have M2 := hM'.setG (k := 8) (v := x1) (by decide) (by decide) (by decide)
  refine ⟨C.1 8, up2 s 2 9 x1, r, up2 (up2 (up2 s 2 9 x1) 287 0 0) 288 8 x1, ?_, ?_, ?_⟩
  · simp only [p11_seed, a_gd, a_R3, obs, c_seed h1, c_G h1]
  · simp only [p12_seed, w_gd, w_putI, obs, w_R1, m_8 hM', w8]
  · have A : ∀ o k, ¬ (o = 2 ∧ k = 9) → ¬ (o = 287 ∧ k = 0) → ¬ (o = 288 ∧ k = 8) → up2 (up2 (up2 s 2 9 x1) 287 0 0) 288 8 x1 o k = s o k := fun o k a b c => by rw [up2_ne c, up2_ne b, up2_ne a]
    have Ao : ∀ o, o ≠ 2 → o ≠ 287 → o ≠ 288 → up2 (up2 (up2 s 2 9 x1) 287 0 0) 288 8 x1 o = s o := fun o a b c => funext fun k => A o k (by omega) (by omega) (by omega)
    refine ⟨stG C 8 x1, G, L, n, p, ⟨⟨(I2.up (o := 287) (by omega)).up (o := 288) (by omega), h2.fr (P := fun o => o = 2 ∨ o = 287 ∨ o = 288) (fun o ho => Ao o (by omega) (by omega) (by omega)) (by omega) (by omega), M2, h4.c7 (fun j hj h7 => A 288 j (by omega) (by omega) (by omega)), h5.setG (by omega) (by omega) (by omega) (by omega) (by omega) (by omega), h6⟩, hL.rs (fun o a b => Ao o (by omega) (by omega) (by omega)) (fun j a b => A 288 j (by omega) (by omega) (by omega))⟩, ht.fr (A 0 1 (by omega) (by omega) (by omega)) (A 287 9 (by omega) (by omega) (by omega)) (Ao 1 (by decide) (by decide) (by decide)) (Ao 293 (by decide) (by decide) (by decide)), hp.fr (A 0 10 (by omega) (by omega) (by omega)) (A 287 7 (by omega) (by omega) (by omega)) (A 288 2 (by omega) (by omega) (by omega)) (fun o ho => Ao o (by unfold inP at ho; omega) (by unfold inP at ho; omega) (by unfold inP at ho; omega)) (Ao 292 (by decide) (by decide) (by decide)), hk.fr (A 0 13 (by omega) (by omega) (by omega)) (A 287 6 (by omega) (by omega) (by omega)) (fun o a b => Ao o (by omega) (by omega) (by omega)) (Ao 289 (by decide) (by decide) (by decide)), hr.fr (Ao 18 (by decide) (by decide) (by decide)) (Ao 83 (by decide) (by decide) (by decide)) (Ao 98 (by decide) (by decide) (by decide)) (A 0 2 (by omega) (by omega) (by omega)) (A 287 14 (by omega) (by omega) (by omega)) (A 48 3 (by omega) (by omega) (by omega)) (A 52 3 (by omega) (by omega) (by omega))⟩
theorem op_end {x1 : Int32} : Dir g (fun M => p11_end (ob g 0) x1 M) (fun M => p12_end (ob g 287) x1 M) := by
  intro s l r hI
  obtain ⟨C, G, L, n, p, hc, ht, hp, hk, hr⟩ := id hI
  obtain ⟨t1, t2, t3, t4⟩ := id ht
  by_cases e1 : x1 < 0
  · refine ⟨0, s, r, up2 s 287 0 0, ?_, ?_, hI.rs rs_thr⟩
    · simp only [p11_end, a_gd, e1, if_true, p11_end_J12, p11_end]
    · simp only [p12_end, w_gd, w_putI, obs, e1, if_true, p12_end_J17, p12_end]
  · by_cases e2 : Int32.ofNat n < x1
    · have t3' : up2 s 287 0 0 287 9 = Int32.ofNat n := by rw [up2_ne (by omega)]; exact t3
      refine ⟨0, s, r, up2 s 287 0 0, ?_, ?_, hI.rs rs_thr⟩
      · simp only [p11_end, a_gd, e1, if_false, a_I, t2, obs, e2, if_true, p11_end_J12, p11_end]
      · simp only [p12_end, w_gd, w_putI, obs, e1, if_false, w_getI, t3', e2, if_true, p12_end_J17, p12_end]
    · have z0 : (0 : Int32).toInt = 0 := rfl
      have q1 : ¬ x1.toInt < 0 := fun h => e1 (i_ltI.mpr (by omega))
      have q2 : ¬ (n : Int) < x1.toInt := fun h => e2 (i_ltI.mpr (by rw [i_toInt (by omega)]; exact h))
      obtain ⟨m, hm, rfl⟩ : ∃ m, m ≤ n ∧ x1 = Int32.ofNat m := ⟨x1.toInt.toNat, by omega, by apply i_ext; rw [i_toInt (by omega)]; omega⟩
      have t3' : up2 (up2 s 0 1 (Int32.ofNat m)) 287 0 0 287 9 = Int32.ofNat n := by rw [up2_ne (by omega), up2_ne (by omega)]; exact t3
      refine ⟨1, up2 s 0 1 (Int32.ofNat m), r, up2 (up2 (up2 s 0 1 (Int32.ofNat m)) 287 0 0) 287 9 (Int32.ofNat m), ?_, ?_, ?_⟩
      · simp only [p11_end, a_gd, e1, if_false, a_I, t2, obs, e2, a_P]
      · simp only [p12_end, w_gd, w_putI, obs, e1, if_false, w_getI, t3', e2]
      · have A : ∀ o k, ¬ (o = 0 ∧ k = 1) → ¬ (o = 287 ∧ k = 0) → ¬ (o = 287 ∧ k = 9) → up2 (up2 (up2 s 0 1 (Int32.ofNat m)) 287 0 0) 287 9 (Int32.ofNat m) o k = s o k := fun o k a b c => by rw [up2_ne c, up2_ne b, up2_ne a]
        have Ao : ∀ o, o ≠ 0 → o ≠ 287 → up2 (up2 (up2 s 0 1 (Int32.ofNat m)) 287 0 0) 287 9 (Int32.ofNat m) o = s o := fun o a b => funext fun k => A o k (by omega) (by omega) (by omega)
        refine ⟨C, G, L, m, p, ⟨hc.1.rs (fun o a b => Ao o (by omega) (by omega)) (fun j _ => A 288 j (by omega) (by omega) (by omega)), hc.2.rs (fun o a b => Ao o (by omega) (by omega)) (fun j a b => A 288 j (by omega) (by omega) (by omega))⟩, ⟨by omega, ?_, up2_eq, fun j hj => ?_⟩, hp.fr (A 0 10 (by omega) (by omega) (by omega)) (A 287 7 (by omega) (by omega) (by omega)) (A 288 2 (by omega) (by omega) (by omega)) (fun o ho => Ao o (by unfold inP at ho; omega) (by unfold inP at ho; omega)) (Ao 292 (by decide) (by decide)), hk.fr (A 0 13 (by omega) (by omega) (by omega)) (A 287 6 (by omega) (by omega) (by omega)) (fun o a b => Ao o (by omega) (by omega)) (Ao 289 (by decide) (by decide)), hr.fr (Ao 18 (by decide) (by decide)) (Ao 83 (by decide) (by decide)) (Ao 98 (by decide) (by decide)) (A 0 2 (by omega) (by omega) (by omega)) (A 287 14 (by omega) (by omega) (by omega)) (A 48 3 (by omega) (by omega) (by omega)) (A 52 3 (by omega) (by omega) (by omega))⟩
        · rw [up2_ne (by omega), up2_ne (by omega), up2_eq]
        · rw [Ao 1 (by decide) (by decide), Ao 293 (by decide) (by decide)]
          exact t4 j (by omega)
/-! UNDO -/
theorem m_und_row {t : Nat} (ht : t < 12) (hp : s 287 7 = Int32.ofNat t) : p12_undo_L26 gF (ob g 287) 0 (mm g s l r) = some (1, mm g (cpS s 288 0 292 (445 * t) 445) l r) := by
  obtain ⟨m, hm⟩ := cp_run (g := g) (l := l) (r := r) (s := s) (d := 288) (od := 0) (c := 292) (oc := 445 * t) (Or.inl (by decide)) (fun n i M => (if mI M (ob g 287) 7 = Int32.ofNat t then p12_undo_L26 n (ob g 287) i M else none)) 445 (fun n i s hi => by
    have c : Int32.ofNat i < 445 := (i_lt (b := 445) (by omega) (by decide)).mpr hi
    have eq7 : mI (mm g (up2 s 288 (0 + i) (s 292 (445 * t + i))) l r) (ob g 287) 7 = mI (mm g s l r) (ob g 287) 7 := by
      rw [mm_I, mm_I, up2_ne (by omega)]
    rw [eq7]
    by_cases h7 : mI (mm g s l r) (ob g 287) 7 = Int32.ofNat t
    · rw [if_pos h7, if_pos h7]
      have h7' : s 287 7 = Int32.ofNat t := (mm_I (g := g) (s := s) (l := l) (r := r) (i := 287) (j := 7)).symm.trans h7
      have ei : (445 : Int32) * Int32.ofNat t + Int32.ofNat i = Int32.ofNat (445 * t + i) := by
        rw [show (445 : Int32) = Int32.ofNat 445 from rfl, i_mul, i_add]
      rw [p12_undo_L26]
      simp only [c, if_true, w_R5, w_getI, w_R1, obs, w_ast (show i < 2143 by omega), h7', ei, q_ald (show 445 * t + i < 5340 by omega), i_succ, Nat.zero_add]
    · rw [if_neg h7, if_neg h7]) 445 gF 0 (by omega) (by decide)
  rw [cpS_0] at hm
  have e0 : mI (mm g s l r) (ob g 287) 7 = Int32.ofNat t := by rw [mm_I]; exact hp
  have e1 : mI (mm g (cpS s 288 0 292 (445 * t) 445) l r) (ob g 287) 7 = Int32.ofNat t := by rw [mm_I, cpS_ne (by decide)]; exact hp
  rw [if_pos e0, if_pos e1] at hm
  have hm' : p12_undo_L26 gF (ob g 287) 0 (mm g s l r) = p12_undo_L26 (m + 1) (ob g 287) (Int32.ofNat 445) (mm g (cpS s 288 0 292 (445 * t) 445) l r) := hm
  have c : ¬ Int32.ofNat 445 < 445 := by decide
  rw [hm', p12_undo_L26, if_neg c]
theorem op_undo : Dir g (fun M => p11_undo (ob g 0) M) (fun M => p12_undo (ob g 287) M) := by
  intro s l r hI
  obtain ⟨C, G, L, n, p, hc, ht, hp, hk, hr⟩ := id hI
  obtain ⟨p1, p2, p3, p4, p5, p6⟩ := id hp
  have p3' : up2 s 287 0 0 287 7 = Int32.ofNat p := by rw [up2_ne (by omega)]; exact p3
  by_cases h0 : p = 0
  · subst h0
    have c : ¬ (0 : Int32) < Int32.ofNat 0 := by decide
    have c2 : Int32.ofNat 0 = 0 := rfl
    refine ⟨0, s, r, up2 s 287 0 0, ?_, ?_, hI.rs rs_thr⟩
    · simp only [p11_undo, a_gd, a_I, p2, obs, c, if_false, p11_undo_J19, p11_undo]
    · simp only [p12_undo, w_gd, w_putI, w_getI, obs, p3', c2, if_true]
  · obtain ⟨t, rfl⟩ : ∃ t, p = t + 1 := ⟨p - 1, by omega⟩
    have ht12 : t < 12 := by omega
    have c : (0 : Int32) < Int32.ofNat (t + 1) := (i_lt (a := 0) (by omega) (by omega)).mpr (by omega)
    have c12 : ¬ (12 : Int32) < Int32.ofNat (t + 1) := fun h => by
      have := (i_lt (a := 12) (by omega) (by omega)).mp h
      omega
    have cz : ¬ Int32.ofNat (t + 1) = 0 := fun e => by
      have := (i_eq (b := 0) (by omega) (by omega)).mp e
      omega
    have es : Int32.ofNat (t + 1) - 1 = Int32.ofNat t := by rw [i_sub1 (by omega) (by omega), Nat.add_sub_cancel]
    obtain ⟨e2, C1, G1, F1, F2, F3, F4, F5, F6⟩ := p6 t (by omega)
    have hb := pBL_f _ (p4 t (by omega)).1
    have u0 : ∀ o, o ≠ 0 → up2 s 0 10 (Int32.ofNat t) o = s o := fun o ho => funext fun j => up2_ne (by omega)
    obtain ⟨s2, e3, I2, g2, f2⟩ := c_take (g := g) (s := up2 s 0 10 (Int32.ofNat t)) (l := l) (r := r) (d := 2) (c := r t) (by decide) (by omega) (F1.up (by omega)) (F2.fr (P := fun o => o = 0) (Fr.up rfl) (by omega) (by omega)) (fun j hj => by rw [u0 _ (by decide)]; exact hc.1.1.2.2.2.2.2.2 j hj)
    have hrow := m_und_row (g := g) (s := up2 (up2 s2 287 0 0) 287 7 (Int32.ofNat t)) (l := l) (r := r) ht12 up2_eq
    have e287 : s2 287 = s 287 := by rw [f2 287 (by omega), u0 287 (by decide)]
    have p3'' : up2 s2 287 0 0 287 7 = Int32.ofNat (t + 1) := by rw [up2_ne (by omega), e287]; exact p3
    refine ⟨1, s2, r, cpS (up2 (up2 s2 287 0 0) 287 7 (Int32.ofNat t)) 288 0 292 (445 * t) 445, ?_, ?_, ?_⟩
    · have e10 : up2 s 0 10 (Int32.ofNat t) 0 10 = Int32.ofNat t := up2_eq
      simp only [p11_undo, a_gd, a_I, p2, obs, c, if_true, a_R9, a_lenP, c12, if_false, es, a_P, a_R3, e10, mm_aldF ht12, e3]
    · simp only [p12_undo, w_gd, w_putI, w_getI, obs, p3'', cz, if_false, es]
      exact hrow
    · have A : ∀ o, o ≠ 288 → o ≠ 287 → o ≠ 0 → ¬ (2 ≤ o ∧ o < 2 + 14) → cpS (up2 (up2 s2 287 0 0) 287 7 (Int32.ofNat t)) 288 0 292 (445 * t) 445 o = s o := fun o a b c d => by
        rw [cpS_ne a, show up2 (up2 s2 287 0 0) 287 7 (Int32.ofNat t) o = s2 o from funext fun j => by rw [up2_ne (by omega), up2_ne (by omega)], f2 o d, u0 o c]
      have B : ∀ o, 2 ≤ o → o < 16 → cpS (up2 (up2 s2 287 0 0) 287 7 (Int32.ofNat t)) 288 0 292 (445 * t) 445 o = s2 o := fun o a b => by
        rw [cpS_ne (by omega)]
        exact funext fun j => by rw [up2_ne (by omega), up2_ne (by omega)]
      have Z : ∀ k, k ≠ 10 → cpS (up2 (up2 s2 287 0 0) 287 7 (Int32.ofNat t)) 288 0 292 (445 * t) 445 0 k = s 0 k := fun k hk => by
        rw [cpS_ne (by decide), up2_ne (by omega), up2_ne (by omega), f2 0 (by omega), up2_ne (by omega)]
      have Z10 : cpS (up2 (up2 s2 287 0 0) 287 7 (Int32.ofNat t)) 288 0 292 (445 * t) 445 0 10 = Int32.ofNat t := by
        rw [cpS_ne (by decide), up2_ne (by omega), up2_ne (by omega), f2 0 (by omega), up2_eq]
      have V : ∀ k, k ≠ 7 → k ≠ 0 → cpS (up2 (up2 s2 287 0 0) 287 7 (Int32.ofNat t)) 288 0 292 (445 * t) 445 287 k = s 287 k := fun k a b => by
        rw [cpS_ne (by decide), up2_ne (by omega), up2_ne (by omega), e287]
      have e292 : s2 292 = s 292 := by rw [f2 292 (by omega), u0 292 (by decide)]
      have e288 : s2 288 = s 288 := by rw [f2 288 (by omega), u0 288 (by decide)]
      have W : ∀ k, cpS (up2 (up2 s2 287 0 0) 287 7 (Int32.ofNat t)) 288 0 292 (445 * t) 445 288 k = if k < 445 then rowJ s t k else s 288 k := fun k => by
        rw [cpS_v, up2_ne (by omega), up2_ne (by omega), up2_ne (by omega), up2_ne (by omega), e292, e288]
        by_cases hk : k < 445
        · rw [if_pos (by omega), if_pos hk]
          unfold rowJ
          congr 1
        · rw [if_neg (by omega), if_neg hk]
      have ff : Fr (fun o => o < 2 ∨ 16 ≤ o) s2 (cpS (up2 (up2 s2 287 0 0) 287 7 (Int32.ofNat t)) 288 0 292 (445 * t) 445) := fun o ho => B o (by omega) (by omega)
      have hp' : Past (cpS (up2 (up2 s2 287 0 0) 287 7 (Int32.ofNat t)) 288 0 292 (445 * t) 445) r t := by
        refine ⟨by omega, Z10, by rw [cpS_ne (by decide), up2_eq], fun j hj => ⟨(p4 j hj).1, (p4 j hj).2.rs ?_⟩, p5, fun j hj => ?_⟩
        · have := (pBL_f _ (p4 j hj).1).2
          exact A _ (by omega) (by omega) (by omega) (by omega)
        · obtain ⟨q1, C2, G2, hF⟩ := p6 j (by omega)
          have := (pBL_f _ (p4 j (by omega)).1).2
          have er : rowJ (cpS (up2 (up2 s2 287 0 0) 287 7 (Int32.ofNat t)) 288 0 292 (445 * t) 445) j = rowJ s j := funext fun k => by unfold rowJ; rw [A 292 (by decide) (by decide) (by decide) (by omega)]
          exact ⟨by rw [er, W 2, if_pos (by omega), e2]; exact q1, C2, G2, hF.rs (fun o a b => A o (by omega) (by omega) (by omega) (by omega)) (fun i hi => by rw [er])⟩
      refine ⟨C1, G1, L, n, t, ⟨⟨I2.fr ff (fun o ho => by omega), g2.fr ff (by omega) (by omega), F3.cells (fun j hj => by rw [W, if_pos (by omega)]), F4.cells (fun j hj => by rw [W, if_pos hj]), F5, F6⟩, hc.2.rs (fun o a b => A o (by omega) (by omega) (by omega) (by omega)) (fun j a b => ?_)⟩, ht.fr (Z 1 (by decide)) (V 9 (by decide) (by decide)) (A 1 (by decide) (by decide) (by decide) (by omega)) (A 293 (by decide) (by decide) (by decide) (by omega)), hp', hk.fr (Z 13 (by decide)) (V 6 (by decide) (by decide)) (fun o a b => A o (by omega) (by omega) (by omega) (by omega)) (A 289 (by decide) (by decide) (by decide) (by omega)), hr.fr (A 18 (by decide) (by decide) (by decide) (by omega)) (A 83 (by decide) (by decide) (by decide) (by omega)) (A 98 (by decide) (by decide) (by decide) (by omega)) (Z 2 (by decide)) (V 14 (by decide) (by decide)) (congrFun (A 48 (by decide) (by decide) (by decide) (by omega)) 3) (congrFun (A 52 (by decide) (by decide) (by decide) (by omega)) 3)⟩
      rw [W]
      by_cases hj : j < 445
      · rw [if_pos hj, show j = 2 by omega]
        exact e2
      · rw [if_neg hj]
end
