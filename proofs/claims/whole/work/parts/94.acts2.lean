/-! the reference remembers; what an act comes to -/
theorem k292 : lK 292 = 20 := by decide +kernel
theorem n292 : lNn 292 = 5340 := by decide +kernel
section
variable {g : Nat} {s : tS} {l : tL} {r : Nat → Nat} {C : Co} {G : Lg} {L : Lw} {p : Nat} {F : Fp}
theorem w_R5 : getR (mm g s l r) (ob g 287) 12 5 = some (ob g 292) := mm_getR k287 (by decide +kernel) (by decide)
theorem q_ald {k : Nat} (hk : k < 5340) : aldI (mm g s l r) (ob g 292) 20 (Int32.ofNat k) = some (s 292 k) := mm_aldI k292 n292 hk (by decide)
theorem q_ast {k : Nat} {v : Int32} (hk : k < 5340) : astI (mm g s l r) (ob g 292) (Int32.ofNat k) v = some (mm g (up2 s 292 k v) l r) := mm_astI k292 n292 hk (by decide)
theorem m_rem_row {t : Nat} (ht : t < 12) (hp : s 287 7 = Int32.ofNat (t + 1)) : p12_remembers_J53 (ob g 287) (mm g s l r) = some (mm g (cpS s 292 (445 * t) 288 0 445) l r) := by
  obtain ⟨m, hm⟩ := cp_run (g := g) (l := l) (r := r) (s := s) (d := 292) (od := 445 * t) (c := 288) (oc := 0) (Or.inl (by decide)) (fun n i M => (if mI M (ob g 287) 7 = Int32.ofNat (t + 1) then p12_remembers_L55 n (ob g 287) i M else none)) 445 (fun n i s hi => by
    have c : Int32.ofNat i < 445 := (i_lt (b := 445) (by omega) (by decide)).mpr hi
    have eq7 : mI (mm g (up2 s 292 (445 * t + i) (s 288 (0 + i))) l r) (ob g 287) 7 = mI (mm g s l r) (ob g 287) 7 := by
      rw [mm_I, mm_I, up2_ne (by omega)]
    rw [eq7]
    by_cases h7 : mI (mm g s l r) (ob g 287) 7 = Int32.ofNat (t + 1)
    · rw [if_pos h7, if_pos h7]
      have h7' : s 287 7 = Int32.ofNat (t + 1) := (mm_I (g := g) (s := s) (l := l) (r := r) (i := 287) (j := 7)).symm.trans h7
      have ei : (445 : Int32) * (Int32.ofNat (t + 1) - 1) + Int32.ofNat i = Int32.ofNat (445 * t + i) := by
        rw [i_sub1 (by omega) (by omega), Nat.add_sub_cancel, show (445 : Int32) = Int32.ofNat 445 from rfl, i_mul, i_add]
      rw [p12_remembers_L55]
      simp only [c, if_true, w_R5, w_getI, w_R1, obs, w_ald (show i < 2143 by omega), h7', ei, q_ast (show 445 * t + i < 5340 by omega), i_succ, Nat.zero_add]
    · rw [if_neg h7, if_neg h7]) 445 gF 0 (by omega) (by decide)
  rw [cpS_0] at hm
  have e0 : mI (mm g s l r) (ob g 287) 7 = Int32.ofNat (t + 1) := by rw [mm_I]; exact hp
  have e1 : mI (mm g (cpS s 292 (445 * t) 288 0 445) l r) (ob g 287) 7 = Int32.ofNat (t + 1) := by rw [mm_I, cpS_ne (by decide)]; exact hp
  rw [if_pos e0, if_pos e1] at hm
  have hm' : p12_remembers_L55 gF (ob g 287) 0 (mm g s l r) = p12_remembers_L55 (m + 1) (ob g 287) (Int32.ofNat 445) (mm g (cpS s 292 (445 * t) 288 0 445) l r) := hm
  have c : ¬ Int32.ofNat 445 < 445 := by decide
  rw [p12_remembers_J53, hm', p12_remembers_L55, if_neg c]
theorem m_remember (hPm : Pm s p F) (hM : Ms s C) (hg : LgM (s 288) G) : ∃ s1, p12_remembers (ob g 287) (mm g s l r) = some (mm g s1 l r) ∧ Pm s1 (p1 p) (F1 p F (C, G)) ∧ (∀ o, o ≠ 292 → o ≠ 287 → s1 o = s o) ∧ ∀ k, k ≠ 7 → s1 287 k = s 287 k := by
  obtain ⟨h1, h2, h3⟩ := hPm
  by_cases hp : p < 12
  · have c12 : ¬ Int32.ofNat p = 12 := fun e => by
      have := (i_eq (b := 12) (by omega) (by omega)).mp e
      omega
    have hrow := m_rem_row (g := g) (s := up2 s 287 7 (Int32.ofNat (p + 1))) (l := l) (r := r) hp up2_eq
    have u : ∀ o, o ≠ 287 → up2 s 287 7 (Int32.ofNat (p + 1)) o = s o := fun o ho => funext fun j => up2_ne (by omega)
    refine ⟨cpS (up2 s 287 7 (Int32.ofNat (p + 1))) 292 (445 * p) 288 0 445, ?_, ⟨by unfold p1; rw [if_pos hp]; omega, ?_, fun j hj => ?_⟩, fun o a b => by rw [cpS_ne a, u o b], fun k hk => by rw [cpS_ne (by decide), up2_ne (by omega)]⟩
    · simp only [p12_remembers, w_gd, w_getI, h2, obs, c12, if_false, i_succ, w_putI]
      exact hrow
    · rw [cpS_ne (by decide), up2_eq]
      unfold p1
      rw [if_pos hp]
    · have hj' : j < p + 1 := by unfold p1 at hj; rw [if_pos hp] at hj; exact hj
      have ef : F1 p F (C, G) j = if j = p then (C, G) else F j := by unfold F1; rw [if_pos hp]
      have e288 : ∀ k, s 288 k = cpS (up2 s 287 7 (Int32.ofNat (p + 1))) 292 (445 * p) 288 0 445 288 k := fun k => by rw [cpS_ne (by decide), u 288 (by decide)]
      have hv : ∀ k, k < 445 → rowJ (cpS (up2 s 287 7 (Int32.ofNat (p + 1))) 292 (445 * p) 288 0 445) j k = if j = p then s 288 k else rowJ s j k := by
        intro k hk
        unfold rowJ
        rw [cpS_v, u 288 (by decide), u 292 (by decide)]
        by_cases ej : j = p
        · subst ej
          rw [if_pos (by omega), if_pos rfl]
          congr 1
          omega
        · rw [if_neg (by omega), if_neg ej]
      rw [ef]
      by_cases ej : j = p
      · rw [if_pos ej]
        exact ⟨hM.cells (fun k hk => by rw [hv k (by omega), if_pos ej]), hg.cells (fun k hk => by rw [hv k hk, if_pos ej]), by rw [hv 2 (by omega), if_pos ej]; exact e288 2⟩
      · rw [if_neg ej]
        obtain ⟨a1, a2, a3⟩ := h3 j (by omega)
        exact ⟨a1.cells (fun k hk => by rw [hv k (by omega), if_neg ej]), a2.cells (fun k hk => by rw [hv k hk, if_neg ej]), by rw [hv 2 (by omega), if_neg ej, a3]; exact e288 2⟩
  · have ep : p = 12 := by omega
    subst ep
    obtain ⟨m, hm⟩ := cp_all (g := g) (l := l) (r := r) (s := s) (d := 292) (od := 0) (c := 292) (oc := 445) (Or.inr (by omega)) (fun n i M => p12_remembers_L11 p12_remembers_J40 n (ob g 287) i M) 4895 (by decide) (fun n i s hi => by
      have c : Int32.ofNat i < 4895 := (i_lt (b := 4895) (by omega) (by decide)).mpr hi
      have ei : Int32.ofNat i + 445 = Int32.ofNat (445 + i) := by rw [Nat.add_comm 445 i]; exact (Int32.ofNat_add i 445).symm
      simp only [p12_remembers_L11, c, if_true, w_R5, obs, ei, q_ald (show 445 + i < 5340 by omega), q_ast (show i < 5340 by omega), i_succ, Nat.zero_add])
    have hm' : p12_remembers_L11 p12_remembers_J40 gF (ob g 287) 0 (mm g s l r) = p12_remembers_L11 p12_remembers_J40 (m + 1) (ob g 287) (Int32.ofNat 4895) (mm g (cpS s 292 0 292 445 4895) l r) := hm
    have c : ¬ Int32.ofNat 4895 < 4895 := by decide
    have c12 : Int32.ofNat 12 = 12 := rfl
    have hrow := m_rem_row (g := g) (s := cpS s 292 0 292 445 4895) (l := l) (r := r) (t := 11) (by omega) (by rw [cpS_ne (by decide)]; exact h2)
    refine ⟨cpS (cpS s 292 0 292 445 4895) 292 (445 * 11) 288 0 445, ?_, ⟨by unfold p1; rw [if_neg hp]; omega, ?_, fun j hj => ?_⟩, fun o a b => by rw [cpS_ne a, cpS_ne a], fun k hk => by rw [cpS_ne (by decide), cpS_ne (by decide)]⟩
    · simp only [p12_remembers, w_gd, w_getI, h2, obs, c12, if_true, hm']
      rw [p12_remembers_L11, if_neg c]
      exact hrow
    · rw [cpS_ne (by decide), cpS_ne (by decide), h2]
      unfold p1
      rw [if_neg hp]
    · have hj' : j < 12 := by unfold p1 at hj; rw [if_neg hp] at hj; exact hj
      have ef : F1 12 F (C, G) j = if j = 11 then (C, G) else F (j + 1) := by unfold F1; rw [if_neg hp]
      have e288 : ∀ k, s 288 k = cpS (cpS s 292 0 292 445 4895) 292 (445 * 11) 288 0 445 288 k := fun k => by rw [cpS_ne (by decide), cpS_ne (by decide)]
      have hv : ∀ k, k < 445 → rowJ (cpS (cpS s 292 0 292 445 4895) 292 (445 * 11) 288 0 445) j k = if j = 11 then s 288 k else rowJ s (j + 1) k := by
        intro k hk
        unfold rowJ
        rw [cpS_v, cpS_ne (show 288 ≠ 292 by decide), cpS_v]
        by_cases ej : j = 11
        · subst ej
          rw [if_pos (by omega), if_pos rfl, show 0 + (445 * 11 + k - 445 * 11) = k by omega]
        · rw [if_neg (by omega), if_neg ej, if_pos (by omega), show 445 + (445 * j + k - 0) = 445 * (j + 1) + k by omega]
      rw [ef]
      by_cases ej : j = 11
      · rw [if_pos ej]
        exact ⟨hM.cells (fun k hk => by rw [hv k (by omega), if_pos ej]), hg.cells (fun k hk => by rw [hv k hk, if_pos ej]), by rw [hv 2 (by omega), if_pos ej]; exact e288 2⟩
      · rw [if_neg ej]
        obtain ⟨a1, a2, a3⟩ := h3 (j + 1) (by omega)
        exact ⟨a1.cells (fun k hk => by rw [hv k (by omega), if_neg ej]), a2.cells (fun k hk => by rw [hv k hk, if_neg ej]), by rw [hv 2 (by omega), if_neg ej, a3]; exact e288 2⟩
/-- what an act leaves as it was, in both -/
theorem inv_act {r1 : Nat → Nat} {n : Nat} {s1 s2 s4 s5 : tS} {C' : Co} {G' : Lg} (hc : Core s C G L) (ht : Tape s n) (hk : Kept s) (hr : Rest s)
    (h1 : Pc s1 r1 (p1 p) (F1 p F (C, G))) (f1 : ∀ o, o ≠ 0 → ¬ inP o → s1 o = s o) (f10 : ∀ k, k ≠ 10 → s1 0 k = s 0 k)
    (f2 : Fr (inF 2) s1 s2) (I2 : Is s2 2 C') (g2 : LgC s2 2 G')
    (h4 : Pm s4 (p1 p) (F1 p F (C, G))) (f4 : ∀ o, o ≠ 292 → o ≠ 287 → s4 o = s2 o) (f47 : ∀ k, k ≠ 7 → k ≠ 0 → s4 287 k = s2 287 k)
    (f5 : Fw pL s4 s5) (M5 : Ms s5 C') (l5 : LgM (s5 288) G') (hC' : VC C') (hG' : VG G') : INV s5 r1 := by
  -- an object that is neither the class's own, nor remembered, nor the family, nor a row of the reference
  have A : ∀ o, o ≠ 0 → ¬ inP o → ¬ inF 2 o → o ≠ 292 → o ≠ 287 → o ≠ 288 → o ≠ 295 → s5 o = s o := fun o a b c d e f q => by
    rw [f5.1 o f q, f4 o d e, f2 o c, f1 o a b]
  have B : ∀ o, ¬ (2 ≤ o ∧ o < 16) → ¬ (o = 37 ∨ o = 38) → o ≠ 292 → o ≠ 287 → o ≠ 288 → o ≠ 295 → s5 o = s1 o := fun o a b d e f q => by
    rw [f5.1 o f q, f4 o d e, f2 o (by unfold inF; omega)]
  have W : ∀ k, ¬ pL k → s5 288 k = s 288 k := fun k hk => by
    rw [f5.2 k hk, f4 288 (by decide) (by decide), f2 288 (by unfold inF; omega), f1 288 (by decide) (by unfold inP; omega)]
  have Z : ∀ k, k ≠ 10 → s5 0 k = s 0 k := fun k hk => by
    rw [B 0 (by omega) (by omega) (by decide) (by decide) (by decide) (by decide)]
    exact f10 k hk
  have V : ∀ k, k ≠ 7 → k ≠ 0 → s5 287 k = s 287 k := fun k hk h0 => by
    rw [f5.1 287 (by decide) (by decide), f47 k hk h0, f2 287 (by unfold inF; omega), f1 287 (by decide) (by unfold inP; omega)]
  have hcF : Fa s5 2 (s5 288) C' G' := by
    have e : ∀ o, 2 ≤ o → o < 16 → s5 o = s2 o := fun o a b => by rw [f5.1 o (by omega) (by omega), f4 o (by omega) (by omega)]
    have ff : Fr (fun o => o < 2 ∨ 16 ≤ o) s2 s5 := fun o ho => e o (by omega) (by omega)
    exact ⟨I2.fr ff (fun o ho => by omega), g2.fr ff (by omega) (by omega), M5, l5, hC', hG'⟩
  have hcL : La s5 30 (s5 288) L := hc.2.rs (fun o a b => A o (by omega) (by unfold inP; omega) (by unfold inF; omega) (by omega) (by omega) (by omega) (by omega)) (fun j hj h2 => W j (by unfold pL; omega))
  refine ⟨C', G', L, n, p1 p, ⟨hcF, hcL⟩, ?_, past_join (F := F1 p F (C, G)) ?_ ?_, ?_, ?_⟩
  · obtain ⟨t1, t2, t3, t4⟩ := ht
    refine ⟨t1, by rw [Z 1 (by decide)]; exact t2, by rw [V 9 (by decide) (by decide)]; exact t3, fun j hj => ?_⟩
    rw [A 1 (by decide) (by unfold inP; omega) (by unfold inF; omega) (by decide) (by decide) (by decide) (by decide), A 293 (by decide) (by unfold inP; omega) (by unfold inF; omega) (by decide) (by decide) (by decide) (by decide)]
    exact t4 j hj
  · obtain ⟨a1, a2, a3, a4, a5⟩ := h1
    refine ⟨a1, by rw [B 0 (by omega) (by omega) (by decide) (by decide) (by decide) (by decide)]; exact a2, fun j hj => ⟨(a3 j hj).1, ?_⟩, a4, fun j hj => ?_⟩
    · have hb := pBL_f _ (a3 j hj).1
      exact (a3 j hj).2.rs (B _ (by omega) (by omega) (by omega) (by omega) (by omega) (by omega))
    · have hb := pBL_f _ (a3 j (by omega)).1
      obtain ⟨b1, b2, b3, b4⟩ := a5 j hj
      have ff : Fr (fun o => o < r1 j ∨ r1 j + 14 ≤ o) s1 s5 := fun o ho => B o (by omega) (by omega) (by omega) (by omega) (by omega) (by omega)
      exact ⟨b1.fr ff (fun o ho => by omega), b2.fr ff (by omega) (by omega), b3, b4⟩
  · obtain ⟨a1, a2, a3⟩ := h4
    have e292 : s5 292 = s4 292 := f5.1 292 (by decide) (by decide)
    refine ⟨a1, by rw [f5.1 287 (by decide) (by decide)]; exact a2, fun j hj => ?_⟩
    have er : rowJ s5 j = rowJ s4 j := funext fun k => by unfold rowJ; rw [e292]
    rw [er, f5.2 2 (by unfold pL; omega)]
    exact a3 j hj
  · obtain ⟨b1, b, b2, b3, b4⟩ := hk
    have KA : ∀ o, 57 ≤ o → o < 78 → s5 o = s o := fun o a c => A o (by omega) (by unfold inP; omega) (by unfold inF; omega) (by omega) (by omega) (by omega) (by omega)
    have e289 : s5 289 = s 289 := A 289 (by decide) (by unfold inP; omega) (by unfold inF; omega) (by decide) (by decide) (by decide) (by decide)
    refine ⟨b1.rs (KA 59 (by omega) (by omega)), b, by rw [Z 13 (by decide)]; exact b2, by rw [V 6 (by decide) (by decide)]; exact b3, fun hb => ?_⟩
    obtain ⟨C1, G1, L1, hF, hL⟩ := b4 hb
    exact ⟨C1, G1, L1, hF.rs (fun o a c => KA o (by omega) (by omega)) (fun j _ => by rw [e289]), hL.rs (fun o a c => KA o (by omega) (by omega)) (fun j _ _ => by rw [e289])⟩
  · obtain ⟨b1, b2, b3, b4, b5, b6⟩ := hr
    refine ⟨b1.rs ?_, b2.rs ?_, b3.rs ?_, by rw [Z 2 (by decide), V 14 (by decide) (by decide)]; exact b4, by rw [A 48 (by omega) (by unfold inP; omega) (by unfold inF; omega) (by omega) (by omega) (by omega) (by omega)]; exact b5, by rw [A 52 (by omega) (by unfold inP; omega) (by unfold inF; omega) (by omega) (by omega) (by omega) (by omega)]; exact b6⟩ <;> exact A _ (by omega) (by unfold inP; omega) (by unfold inF; omega) (by omega) (by omega) (by omega) (by omega)
end
