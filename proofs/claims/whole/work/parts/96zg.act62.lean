section
variable {g : Nat} {s s2 : tS} {l : tL} {r : Nat → Nat} {C C2 : Co} {G : Lg} {L : Lw} {p2 : Nat}
theorem op_family : Op g H_family (fun M => p11_family (ob g 0) M) (fun M => p12_family (ob g 287) M) := by
  intro s l r hI
  obtain ⟨C, G, L, n, p, hc, ht, hp, hk, hr⟩ := id hI
  obtain ⟨t1, t2, t3, t4⟩ := id ht
  have hC := hc.1.2.2.2.2.1
  have hM : Ms s C := hc.1.2.2.1
  obtain ⟨s1, e1, I1, g1, f1⟩ := c_take (g := g) (l := l) (r := r) (d := 16) (c := 2) (by decide) (by decide) hc.1.1 hc.1.2.1 hr.1
  have I1' : Is (up2 s1 0 1 0) 16 C := I1.up (o := 0) (by omega)
  have hT : CT (up2 s1 0 1 0) n (ub s) := ⟨t1, fun j hj => by rw [up2_ne (by omega), f1 1 (by omega)]; exact ⟨(tape_u ht hj).2.1, (tape_u ht hj).1⟩⟩
  have h3 : up2 s1 0 1 0 48 3 = 14 := by rw [up2_ne (by omega), f1 48 (by omega)]; exact hr.2.2.2.2.1
  obtain ⟨ok, C', f, m, ⟨s4, C4, e4, F4, I4, q4⟩, hm, hv, hf, hm'⟩ := jl_text (g := g) (l := l) (r := r) hC I1' hT h3
  have t2' : s1 0 1 = Int32.ofNat n := by rw [f1 0 (by omega)]; exact t2
  have eu : p11_usedTape (ob g 0) (mm g s1 l r) = some (Int32.ofNat n, mm g (up2 s1 0 1 0) l r) := by simp only [p11_usedTape, a_gd, a_I, a_P, obs, t2']
  have A4 : ∀ o j, ¬ (16 ≤ o ∧ o < 30) → ¬ (o = 48 ∧ 4 ≤ j ∧ j ≤ 7) → ¬ (49 ≤ o ∧ o ≤ 51) → ¬ (o = 0 ∧ j = 1) → s4 o j = s o j := fun o j a b c d => by
    rw [F4 o j (by omega) b c, up2_ne d, f1 o (by omega)]
  have h1 : s4 0 1 = 0 := by rw [F4 0 1 (by omega) (by omega) (by omega), up2_eq]
  have h18 : Nob s4 16 := I4.2.2.2.2.2.2
  have B4 : ∀ o, 2 ≤ o → o < 16 → s4 o = s o := fun o a b => funext fun j => A4 o j (by omega) (by omega) (by omega) (by omega)
  have I24 : Is s4 2 C := hc.1.1.fr (P := fun o => ¬ (2 ≤ o ∧ o < 16)) (fun o ho => B4 o (by omega) (by omega)) (fun o ho => by omega)
  have ref : ∀ (X : tS) (l : tL), X 288 = s 288 → X 287 9 = s 287 9 → X 293 = s 293 → ∃ s3, p12_readAll (ob g 287) 1 (mm g (cpS X 290 0 288 0 1294) l r) = some (if ok = true then Int32.ofNat m else -1, mm g s3 l r) ∧ mT (cpS X 290 0 288 0 1294) s3 ∧ s3 287 0 = 0 ∧ s3 287 9 = 0 ∧ (ok = true → Ms s3 C') ∧ (ok = false → s3 287 12 = Int32.ofNat f) := fun X l x1 x2 x3 => hm (cpS X 290 0 288 0 1294) l r (by show Mw _ C; rw [cpS_ne (by decide), x1]; exact hM) (by rw [cpS_ne (by decide), x2]; exact t3) (fun j hj => by rw [cpS_ne (by decide), x3]; exact (tape_u ht hj).2.2)
  have X5 : ∀ x, up2 s4 0 2 x 288 = s 288 ∧ up2 s4 0 2 x 287 9 = s 287 9 ∧ up2 s4 0 2 x 293 = s 293 := fun x => ⟨funext fun j => by rw [up2_ne (by omega), A4 288 j (by omega) (by omega) (by omega) (by omega)], by rw [up2_ne (by omega), A4 287 9 (by omega) (by omega) (by omega) (by omega)], funext fun j => by rw [up2_ne (by omega), A4 293 j (by omega) (by omega) (by omega) (by omega)]⟩
  cases ok with
  | false =>
    obtain ⟨s3, e3, F3, z0, z9, -, z12⟩ := ref (up2 s4 0 2 (Int32.ofNat f)) l (X5 _).1 (X5 _).2.1 (X5 _).2.2
    have z12 := z12 rfl
    have fm : (Int32.ofNat f = -1) = False := eq_false (fun h => by
      have h2 := congrArg Int32.toInt h
      rw [i_toInt (by omega)] at h2
      have : (-1 : Int32).toInt = -1 := by decide
      omega)
    have hb := inv_bad (s := s) (s4 := s4) (s3 := s3) (x := Int32.ofNat f) (y := 1) (n := n) hc hp hk hr A4 h1 h18 F3 z9
    rw [← z12] at hb
    have e3' : p12_readAll (ob g 287) 1 (mm g (cpS (up2 s4 0 2 (Int32.ofNat f)) 290 0 288 0 1294) l r) = some (-1, mm g s3 l r) := e3
    refine Or.inl ⟨0, up2 s4 0 2 (Int32.ofNat f), r, _, 0, ?_, by decide, m_fam_f e3', ?_, hb⟩
    · simp only [p11_family, a_gd, a_R4, a_R3, obs, e1, a_R7, a_R0, eu, e4, Bool.false_eq_true, if_false, if_true, a_P, a_I, up2_eq, fm, thr, mm_X]
    · rw [cpS_ne (by decide), up2_eq]
      rfl
  | true =>
    have hC' := hv rfl
    have q4 := q4 rfl
    subst q4
    have ct : C4.1 1 = C.1 1 := by
      have a := I4.2.2.1 10 (by decide) (by decide)
      have b := I1'.2.2.1 10 (by decide) (by decide)
      rw [F4 16 10 (by omega) (by omega) (by omega), b] at a
      exact a.symm
    have hb1 := hC.2.2.2.2.2.1
    have c2 : getI (mm g (up2 s4 0 2 (-1)) l r) (ob g 2) 3 10 = some (C.1 1) := c_texts (I24.up (o := 0) (by omega))
    have e12 : (12 : Int32).toInt = 12 := by decide
    by_cases c12 : C.1 1 = 12
    · obtain ⟨s3, e3, F3, z0, z9, zM, -⟩ := ref (up2 s4 0 2 (-1)) l (X5 _).1 (X5 _).2.1 (X5 _).2.2
      have e3' : p12_readAll (ob g 287) 1 (mm g (cpS (up2 s4 0 2 (-1)) 290 0 288 0 1294) l r) = some (Int32.ofNat m, mm g s3 l r) := e3
      have k1 : s3 288 1 = 12 := by rw [(zM rfl).2.1 1 (by decide) (by decide) (by decide), ct, c12]
      have lt : ((12 : Int32) < 12) = False := by decide
      refine Or.inl ⟨3, up2 s4 0 2 (-1), r, _, 0, ?_, by decide, m_fam_12 e3' hm' k1, ?_, inv_bad (s := s) (s4 := s4) (s3 := s3) (x := -1) (y := 2) (n := n) hc hp hk hr A4 h1 h18 F3 z9⟩
      · simp only [p11_family, a_gd, a_R4, a_R3, obs, e1, a_R7, a_R0, eu, e4, if_true, a_P, a_I, up2_eq, c2, c12, lt, if_false, thr, mm_X]
      · rw [cpS_ne (by decide), up2_eq]
        rfl
    · have lt : (C.1 1 < 12) = True := eq_true (i_ltI.mpr (by
        have h1 := hb1.2
        have h2 : (C.1 1).toInt ≠ 12 := fun h => c12 (i_ext (h.trans e12.symm))
        omega))
      have J6 := (I4.up (o := 0) (k := 2) (v := -1) (by omega)).setG (k := 10) (v := C4.1 1 + 1) (by decide) (by decide)
      have J6 : Is (up2 (up2 s4 0 2 (-1)) 16 10 (C4.1 1 + 1)) 16 (stG C4 1 (C4.1 1 + 1)) := J6
      have g4 : LgC (up2 (up2 s4 0 2 (-1)) 16 10 (C4.1 1 + 1)) 16 G := g1.fr (P := fun o => o ≠ 20 ∧ o ≠ 21) (fun o ho => funext fun j => by
        rw [up2_ne (by omega), up2_ne (by omega), F4 o j (by omega) (by omega) (by omega), up2_ne (by omega)]) (by omega) (by omega)
      have nb2 : ∀ j, j < 9 → up2 (up2 s4 0 2 (-1)) 16 10 (C4.1 1 + 1) (2 + 2) j = nob j := fun j hj => by
        rw [up2_ne (by omega), up2_ne (by omega), B4 4 (by omega) (by omega)]
        exact hc.1.1.2.2.2.2.2.2 j hj
      obtain ⟨s7, e7, I7, g7, f7⟩ := c_take (g := g) (l := l) (r := r) (d := 2) (c := 16) (by decide) (by decide) J6 g4 nb2
      have A8 : ∀ o j, ¬ (2 ≤ o ∧ o < 30) → ¬ (o = 48 ∧ 4 ≤ j ∧ j ≤ 7) → ¬ (49 ≤ o ∧ o ≤ 51) → ¬ (o = 0 ∧ (j = 1 ∨ j = 2 ∨ j = 10)) → up2 s7 0 10 0 o j = s o j := fun o j a b c d => by
        rw [up2_ne (by omega), f7 o (by omega), up2_ne (by omega), up2_ne (by omega), A4 o j (by omega) b c (by omega)]
      have I8 : Is (up2 s7 0 10 0) 2 (stG C4 1 (C4.1 1 + 1)) := I7.up (o := 0) (by omega)
      have c16 : getI (mm g (up2 s4 0 2 (-1)) l r) (ob g 16) 3 10 = some (C4.1 1) := c_texts (I4.up (o := 0) (by omega))
      have p16 : putI (mm g (up2 s4 0 2 (-1)) l r) (ob g 16) 3 10 (C4.1 1 + 1) = some (mm g (up2 (up2 s4 0 2 (-1)) 16 10 (C4.1 1 + 1)) l r) := c_G (I4.up (o := 0) (by omega))
      have e1' : (stG C4 1 (C4.1 1 + 1)).1 1 = C4.1 1 + 1 := show up1 C4.1 1 (C4.1 1 + 1) 1 = _ from up1_eq
      have c8 : getI (mm g (up2 s7 0 10 0) l r) (ob g 2) 3 10 = some (C4.1 1 + 1) := by rw [c_texts I8, e1']
      refine Or.inr ⟨C4.1 1 + 1, up2 s7 0 10 0, r, ?_, fun l1 => ?_⟩
      · simp only [p11_family, a_gd, a_R4, a_R3, obs, e1, a_R7, a_R0, eu, e4, if_true, a_P, a_I, up2_eq, c2, lt, c16, p16, e7, c8, xr, Option.map_some]
      · obtain ⟨s3, e3, F3, z0, z9, zM, -⟩ := ref (up2 s7 0 10 0) l1 (funext fun j => A8 288 j (by omega) (by omega) (by omega) (by omega)) (A8 287 9 (by omega) (by omega) (by omega) (by omega)) (funext fun j => A8 293 j (by omega) (by omega) (by omega) (by omega))
        have zM := zM rfl
        have e3' : p12_readAll (ob g 287) 1 (mm g (cpS (up2 s7 0 10 0) 290 0 288 0 1294) l1 r) = some (Int32.ofNat m, mm g s3 l1 r) := e3
        have k1 : s3 288 1 = C4.1 1 := zM.2.1 1 (by decide) (by decide) (by decide)
        have k2 : s3 288 1 ≠ 12 := by rw [k1, ct]; exact c12
        have ef := m_fam_t e3' hm' k2
        rw [k1] at ef
        have D : ∀ o j, o ≠ 290 → ¬ (o = 288 ∧ j < 145 ∧ j ≠ 2 ∧ j ≠ 7) → ¬ (o = 287 ∧ (j = 0 ∨ (9 ≤ j ∧ j ≤ 12) ∨ j = 16 ∨ j = 14 ∨ j = 7)) → up2 (up2 (up2 s3 287 14 (-1)) 288 1 (C4.1 1 + 1)) 287 7 0 o j = up2 s7 0 10 0 o j := fun o j a b c => by
          rw [up2_ne (by omega), up2_ne (by omega), up2_ne (by omega), F3 o j b (by omega), cpS_ne a]
        have Do : ∀ o, o ≠ 290 → o ≠ 288 → o ≠ 287 → up2 (up2 (up2 s3 287 14 (-1)) 288 1 (C4.1 1 + 1)) 287 7 0 o = up2 s7 0 10 0 o := fun o a b c => funext fun j => D o j a (by omega) (by omega)
        have U : ∀ o, o ≠ 0 → o ≠ 287 → o ≠ 288 → o ≠ 290 → ¬ (2 ≤ o ∧ o < 30) → ¬ (48 ≤ o ∧ o ≤ 51) → up2 (up2 (up2 s3 287 14 (-1)) 288 1 (C4.1 1 + 1)) 287 7 0 o = s o := fun o a b c d e f => funext fun j => by
          rw [D o j d (by omega) (by omega), A8 o j e (by omega) (by omega) (by omega)]
        have W : ∀ j, (j = 2 ∨ j = 7 ∨ 145 ≤ j) → up2 (up2 (up2 s3 287 14 (-1)) 288 1 (C4.1 1 + 1)) 287 7 0 288 j = s 288 j := fun j hj => by
          rw [D 288 j (by decide) (by omega) (by omega), A8 288 j (by omega) (by omega) (by omega) (by omega)]
        have M9 : Ms (up2 (up2 (up2 s3 287 14 (-1)) 288 1 (C4.1 1 + 1)) 287 7 0) (stG C4 1 (C4.1 1 + 1)) := ((zM.up (o := 287) (by decide)).setG (k := 1) (by decide) (by decide) (by decide)).up (o := 287) (by decide)
        have V9 : VC (stG C4 1 (C4.1 1 + 1)) := hC'.setG (by decide) (fun _ => by
          obtain ⟨x, hx⟩ : ∃ x : Nat, x < 12 ∧ C.1 1 = Int32.ofNat x := ⟨(C.1 1).toInt.toNat, by have := hb1.1; have h := i_ltI.mp (of_eq_true lt); omega, by
            have h := i_ltI.mp (of_eq_true lt)
            apply i_ext
            have := hb1.1
            rw [i_toInt (by omega)]
            omega⟩
          rw [ct, hx.2, i_succ]
          exact ⟨by rw [i_toInt (by omega)]; omega, by rw [i_toInt (by omega)]; omega⟩) (by omega) (by decide) (by omega) (by omega)
        have fD : Fr (fun o => o = 290 ∨ o = 288 ∨ o = 287) (up2 s7 0 10 0) (up2 (up2 (up2 s3 287 14 (-1)) 288 1 (C4.1 1 + 1)) 287 7 0) := fun o ho => Do o (by omega) (by omega) (by omega)
        have g8 : LgC (up2 s7 0 10 0) 2 G := g7.fr (P := fun o => o = 0) (Fr.up rfl) (by omega) (by omega)
        refine ⟨_, ef, ?_, inv_txt hk hr (C2 := stG C4 1 (C4.1 1 + 1)) (G := G) (L := L) (p2 := 0) ⟨⟨I8.fr fD (fun o ho => by omega), g8.fr fD (by omega) (by omega), M9, hc.1.2.2.2.1.c7 (fun j hj hj' => W j (by omega)), V9, hc.1.2.2.2.2.2⟩, hc.2.rs (fun o a b => U o (by omega) (by omega) (by omega) (by omega) (by omega) (by omega)) (fun j a b => W j (by omega))⟩ (Past.zero (Or.inr ⟨p, hp⟩) ?_ up2_eq (fun o ho => U o (by unfold inP at ho; omega) (by unfold inP at ho; omega) (by unfold inP at ho; omega) (by unfold inP at ho; omega) (by unfold inP at ho; omega) (by unfold inP at ho; omega))) (fun o a b c d => U o (by omega) b c d (by omega) (by omega)) ?_ (fun j hj => ?_) ?_ ?_ ?_ ?_ ?_⟩
        · rw [up2_ne (by omega), up2_ne (by omega), up2_ne (by omega)]
          exact z0
        · rw [D 0 10 (by decide) (by omega) (by omega), up2_eq]
        · rw [D 48 3 (by decide) (by omega) (by omega), A8 48 3 (by omega) (by omega) (by omega) (by omega)]
        · rw [D 18 j (by decide) (by omega) (by omega), up2_ne (by omega), f7 18 (by omega), up2_ne (by omega), up2_ne (by omega)]
          exact h18 j hj
        · rw [D 0 1 (by decide) (by omega) (by omega), up2_ne (by omega), f7 0 (by omega), up2_ne (by omega), up2_ne (by omega)]
          exact h1
        · rw [D 0 13 (by decide) (by omega) (by omega), A8 0 13 (by omega) (by omega) (by omega) (by omega)]
        · rw [D 287 6 (by decide) (by omega) (by omega), A8 287 6 (by omega) (by omega) (by omega) (by omega)]
        · rw [up2_ne (by omega), up2_ne (by omega), up2_ne (by omega)]
          exact z9
        · rw [D 0 2 (by decide) (by omega) (by omega), up2_ne (by omega), f7 0 (by omega), up2_ne (by omega), up2_eq, up2_ne (by omega), up2_ne (by omega), up2_eq]
end
