/-! days, one behind another -/
theorem k80 : lK 80 = 2 := by decide +kernel
theorem fb_30 : ∀ b ∈ fBL, b + 14 ≤ 30 ∨ 39 ≤ b := by decide +kernel
section
variable {g : Nat} {s : tS} {l : tL} {r : Nat → Nat}
theorem d_gd {β : Type} {T : Option β} : gd (mm g s l r) (ob g 80) 2 T = T := mm_gd k80
theorem d_R0 : getR (mm g s l r) (ob g 80) 2 0 = some (ob g 2) := mm_getR k80 (by decide +kernel) (by decide)
theorem d_R1 : getR (mm g s l r) (ob g 80) 2 1 = some (ob g 30) := mm_getR k80 (by decide +kernel) (by decide)
theorem d_R2 : getR (mm g s l r) (ob g 80) 2 2 = some (ob g 81) := mm_getR k80 (by decide +kernel) (by decide)
end
/-- not by rfl: else the kernel unfolds what stands behind -/
theorem obs {α β : Type} (a : α) (f : α → Option β) : (some a).bind f = f a := by rw [Option.bind_some]
/-- one's turn on a day -/
def dWho (C : Co) (i : Nat) : Nat := gAt C i (i2n (rem32 (drV (nextSeed (nextSeed (C.1 8)))) (Int32.ofNat (ngov C i))))
def dYes (C : Co) (i : Nat) : Bool := !decide (rem32 (drV (nextSeed (nextSeed (nextSeed (C.1 8))))) 100 < C.2 (dWho C i) 6)
def dCo (C : Co) : Co := drawC (drawC (drawC C))
def dStep (L : Lw) (i : Nat) (x : Int32 × Co × Lg) : Int32 × Co × Lg :=
  if x.2.1.2 i 8 = 0 then x
  else if rem32 (drV (nextSeed (x.2.1.1 8))) 100 < x.2.1.2 i 5 then
    (x.1 + (if dYes x.2.1 i = true then 0 else 1), tellF (dCo x.2.1) i (dYes x.2.1 i) (wtF L (dCo x.2.1) (dWho x.2.1 i) i (dYes x.2.1 i)), push x.2.2 (rowF (x.2.1.1 3) (Int32.ofNat (dWho x.2.1 i)) (Int32.ofNat i) (dYes x.2.1 i) (movedF (dCo x.2.1) (x.2.1.2 i 0) (wtF L (dCo x.2.1) (dWho x.2.1 i) i (dYes x.2.1 i)) (dYes x.2.1 i))))
  else (x.1, drawC x.2.1, x.2.2)
def dayF (L : Lw) (x : Co × Lg) : Int32 × Co × Lg := ((itF (dStep L) (sz x.1) 0 (0, x)).1, enC (itF (dStep L) (sz x.1) 0 (0, x)).2.1, (itF (dStep L) (sz x.1) 0 (0, x)).2.2)
def goF (L : Lw) (n : Nat) (x : Co × Lg) : Int32 × Co × Lg := itF (fun _ z => (z.1 + (dayF L z.2).1, (dayF L z.2).2)) n 0 (0, x)
def aStep (L : Lw) (y : Bool) (i : Nat) (C : Co) : Co := if C.2 i 8 = 0 then C else tellF C i y (wtF L C (gAt C i 0) i y)
def aheadF (L : Lw) (y : Bool) (C : Co) : Co := enC (itF (aStep L y) (sz C) 0 C)
section
variable {C : Co} {L : Lw} {i : Nat}
theorem who_lt (hC : VC C) (hi : i < sz C) (h0 : C.2 i 8 ≠ 0) (x : Int32) : ∃ t, t < ngov C i ∧ rem32 (drV x) (Int32.ofNat (ngov C i)) = Int32.ofNat t ∧ i2n (rem32 (drV x) (Int32.ofNat (ngov C i))) = t := by
  have hn : ngov C i ≠ 0 := fun h => h0 ((ngov_z hC hi).mp h)
  have h8 := ngov_8 (q := i) hC
  have hm := and_mask (ushr x 16)
  have e1 : (Int32.ofNat (ngov C i)).toInt = (ngov C i : Int) := i_toInt (by omega)
  have hr := rem32_toInt (x := drV x) (y := Int32.ofNat (ngov C i)) hm.1 (by omega)
  rw [e1] at hr
  have a1 := Int.emod_nonneg (drV x).toInt (show (ngov C i : Int) ≠ 0 by omega)
  have a2 := Int.emod_lt_of_pos (drV x).toInt (show 0 < (ngov C i : Int) by omega)
  refine ⟨((drV x).toInt % (ngov C i : Int)).toNat, by omega, ?_, ?_⟩
  · apply i_ext
    rw [hr, i_toInt (by omega)]
    omega
  · show (rem32 (drV x) (Int32.ofNat (ngov C i))).toInt.toNat = _
    rw [hr]
theorem dWho_ok (hC : VC C) (hi : i < sz C) (h0 : C.2 i 8 ≠ 0) : dWho C i < sz C := by
  obtain ⟨t, h1, -, h2⟩ := who_lt hC hi h0 (nextSeed (nextSeed (C.1 8)))
  rw [dWho, h2]
  exact (gAt_ok h1).1
theorem draw_2 : (drawC C).2 = C.2 := rfl
theorem stG_at {k : Nat} {v : Int32} : (stG C k v).1 k = v := up1_eq
theorem stG_ne {k a : Nat} {v : Int32} (h : a ≠ k) : (stG C k v).1 a = C.1 a := up1_ne h
theorem draw_3 : (drawC C).1 3 = C.1 3 := by
  unfold drawC
  rw [stG_ne (by decide)]
theorem draw_8 : (drawC C).1 8 = nextSeed (C.1 8) := by
  unfold drawC
  rw [stG_at]
theorem ngov_ext {C' : Co} {q : Nat} (h2 : C'.2 = C.2) (hs : sz C' = sz C) : ngov C' q = ngov C q := by
  unfold ngov gv
  rw [h2, hs]
theorem gAt_ext {C' : Co} {q t : Nat} (h2 : C'.2 = C.2) (hs : sz C' = sz C) : gAt C' q t = gAt C q t := by
  unfold gAt gv
  rw [h2, hs]
theorem vc_dCo (hC : VC C) : VC (dCo C) := hC.draw.draw.draw
theorem sz_dCo : sz (dCo C) = sz C := by rw [dCo, sz_draw, sz_draw, sz_draw]
theorem dStep_ok {x : Int32 × Co × Lg} (hV : VL L) (hC : VC x.2.1) (hi : i < sz x.2.1) : VC (dStep L i x).2.1 ∧ sz (dStep L i x).2.1 = sz x.2.1 := by
  unfold dStep
  by_cases h0 : x.2.1.2 i 8 = 0
  · rw [if_pos h0]
    exact ⟨hC, rfl⟩
  · rw [if_neg h0]
    by_cases h1 : rem32 (drV (nextSeed (x.2.1.1 8))) 100 < x.2.1.2 i 5
    · rw [if_pos h1]
      have hs : sz (dCo x.2.1) = sz x.2.1 := sz_dCo
      have hv := vc_dCo hC
      generalize dCo x.2.1 = C3 at *
      exact ⟨hv.tell (q := i) (by rw [hs]; exact hi) (wt_bw hV hv), sz_tell.trans hs⟩
    · rw [if_neg h1]
      exact ⟨hC.draw, sz_draw⟩
theorem aStep_ok {y : Bool} (hV : VL L) (hC : VC C) (hi : i < sz C) : VC (aStep L y i C) ∧ sz (aStep L y i C) = sz C := by
  unfold aStep
  by_cases h0 : C.2 i 8 = 0
  · rw [if_pos h0]
    exact ⟨hC, rfl⟩
  · rw [if_neg h0]
    exact ⟨hC.tell hi (wt_bw hV hC), rfl⟩
theorem itF_keep {σ : Type} {f : Nat → σ → σ} {P : σ → Prop} {N : Nat} (h : ∀ i x, i < N → P x → P (f i x)) : ∀ (k i : Nat) (x : σ), i + k ≤ N → P x → P (itF f k i x) := by
  intro k
  induction k with
  | zero => intro i x _ h1; exact h1
  | succ k ih => intro i x h1 h2; exact ih (i + 1) _ (by omega) (h i x (by omega) h2)
theorem dayF_ok {x : Co × Lg} (hV : VL L) (hC : VC x.1) : VC (dayF L x).2.1 ∧ sz (dayF L x).2.1 = sz x.1 := by
  have := itF_keep (f := dStep L) (P := fun z => VC z.2.1 ∧ sz z.2.1 = sz x.1) (N := sz x.1) (fun i z hi hz => by
    have := dStep_ok (i := i) hV hz.1 (by rw [hz.2]; exact hi)
    exact ⟨this.1, this.2.trans hz.2⟩) (sz x.1) 0 (0, x) (by omega) ⟨hC, rfl⟩
  exact ⟨this.1.endC, this.2⟩
theorem goF_ok {n : Nat} {x : Co × Lg} (hV : VL L) (hC : VC x.1) : VC (goF L n x).2.1 ∧ sz (goF L n x).2.1 = sz x.1 := itF_keep (f := fun _ (z : Int32 × Co × Lg) => (z.1 + (dayF L z.2).1, (dayF L z.2).2)) (P := fun z => VC z.2.1 ∧ sz z.2.1 = sz x.1) (N := n) (fun i z _ hz => by
    have := dayF_ok (L := L) (x := z.2) hV hz.1
    exact ⟨this.1, this.2.trans hz.2⟩) n 0 (0, x) (by omega) ⟨hC, rfl⟩
theorem aheadF_ok {y : Bool} (hV : VL L) (hC : VC C) : VC (aheadF L y C) ∧ sz (aheadF L y C) = sz C := by
  have := itF_keep (f := aStep L y) (P := fun z => VC z ∧ sz z = sz C) (N := sz C) (fun i z hi hz => by
    have := aStep_ok (y := y) (i := i) hV hz.1 (by rw [hz.2]; exact hi)
    exact ⟨this.1, this.2.trans hz.2⟩) (sz C) 0 C (by omega) ⟨hC, rfl⟩
  exact ⟨this.1.endC, this.2⟩
end
theorem inW_F {b : Nat} {s s' : tS} (h : Fr inW s s') : Fr (inF b) s s' := h.mono (fun o ho => Or.inr ho)
theorem LIs.frF {s s' : tS} {L : Lw} {b : Nat} (h : LIs s 30 L) (hb : b ∈ fBL) (hf : Fr (inF b) s s') : LIs s' 30 L := h.fr hf (fun o ho => by
  have := fb_30 b hb
  unfold inF at ho
  omega)
theorem LgC.frW {s s' : tS} {b : Nat} {G : Lg} (h : LgC s b G) (hb : b ∈ fBL) (hf : Fr inW s s') : LgC s' b G := by
  have := fb_37 b hb
  exact h.fr hf (by unfold inW; omega) (by unfold inW; omega)
section
variable {g : Nat} {s : tS} {l : tL} {r : Nat → Nat} {b : Nat} {C : Co} {L : Lw} {G : Lg}
/-- a family's state, far from where it began -/
def CS (s0 : tS) (b : Nat) (L : Lw) (n : Nat) (s : tS) (C : Co) (G : Lg) : Prop := Is s b C ∧ LgC s b G ∧ LIs s 30 L ∧ VC C ∧ sz C = n ∧ Fr (inF b) s0 s
def MS (s0 : tS) (P : Nat → Prop) (L : Lw) (n : Nat) (s : tS) (C : Co) : Prop := Ms s C ∧ LMs s L ∧ VC C ∧ sz C = n ∧ Fw P s0 s
theorem i2n_eq {x : Int32} {t : Nat} (h : x = Int32.ofNat t) (ht : t < 2147483648) : i2n x = t := by
  rw [h]
  exact i2n_of ht
theorem c_dStep (hV : VL L) {s0 : tS} {n i fuel : Nat} {x : Int32 × Co × Lg} (hi : i < n) (h : CS s0 b L n s x.2.1 x.2.2) : ∃ s', CS s0 b L n s' (dStep L i x).2.1 (dStep L i x).2.2 ∧ p1_passDay_L4 (fuel + 1) (ob g 80) (ob g b) x.1 (Int32.ofNat i) (mm g s l r) = p1_passDay_L4 fuel (ob g 80) (ob g b) (dStep L i x).1 (Int32.ofNat (i + 1)) (mm g s' l r) := by
  obtain ⟨hI, hg, hL, hC, hn, hf⟩ := h
  have hb := hI.1
  have hi' : i < sz x.2.1 := by rw [hn]; exact hi
  have ok := dStep_ok (i := i) hV hC hi'
  have h8 := ngov_8 (q := i) hC
  have c0 : ((0 : Int32) < Int32.ofNat (ngov x.2.1 i)) = (x.2.1.2 i 8 ≠ 0) := by
    refine propext ((i_lt (a := 0) (by omega) (by omega)).trans ⟨fun h hc => ?_, fun h => ?_⟩)
    · have := (ngov_z hC hi').mpr hc
      omega
    · have : ngov x.2.1 i ≠ 0 := fun hc => h ((ngov_z hC hi').mp hc)
      omega
  have n100 : (100 : Int32) ≠ 0 := by decide
  rw [p1_passDay_L4]
  simp only [c_n hI, zc_yes hI.2.1 hi', obs, if_true, c_at hI hi', c_p hI hi' (show 8 < 9 by decide), bc_gov hC hi', c0]
  by_cases h0 : x.2.1.2 i 8 = 0
  · refine ⟨s, ?_, ?_⟩
    · rw [dStep, if_pos h0]
      exact ⟨hI, hg, hL, hC, hn, hf⟩
    · simp only [h0, ne_eq, not_true_eq_false, if_false, p1_passDay_J124, p1_passDay_J122, p1_passDay_J86, p1_passDay, i_succ]
      rw [dStep, if_pos h0]
  · obtain ⟨e1, I1⟩ := c_draw (g := g) (l := l) (r := r) hI
    have f1 : Fr (inF b) s (up2 s b 9 (nextSeed (x.2.1.1 8))) := Fr.up (Or.inl ⟨Nat.le_refl _, by omega⟩)
    have g1 : LgC (up2 s b 9 (nextSeed (x.2.1.1 8))) b x.2.2 := hg.fr (P := fun o => o = b) (Fr.up rfl) (by omega) (by omega)
    generalize up2 s b 9 (nextSeed (x.2.1.1 8)) = s1 at *
    obtain ⟨C1, hc1⟩ : ∃ C1, C1 = drawC x.2.1 := ⟨_, rfl⟩
    rw [← hc1] at I1
    have k1 : C1.2 = x.2.1.2 := by rw [hc1, draw_2]
    have z1 : sz C1 = sz x.2.1 := by rw [hc1, sz_draw]
    have i1 : i < sz C1 := by rw [z1]; exact hi'
    simp only [h0, ne_eq, not_false_eq_true, if_true, e1, obs, remI_ne n100, c_at I1 i1, c_p I1 i1 (show 5 < 9 by decide), k1]
    by_cases h1 : rem32 (drV (nextSeed (x.2.1.1 8))) 100 < x.2.1.2 i 5
    · obtain ⟨e2, I2⟩ := c_draw (g := g) (l := l) (r := r) I1
      have q1 : C1.1 8 = nextSeed (x.2.1.1 8) := by rw [hc1, draw_8]
      rw [q1] at e2 I2
      have f2 : Fr (inF b) s1 (up2 s1 b 9 (nextSeed (nextSeed (x.2.1.1 8)))) := Fr.up (Or.inl ⟨Nat.le_refl _, by omega⟩)
      have g2 : LgC (up2 s1 b 9 (nextSeed (nextSeed (x.2.1.1 8)))) b x.2.2 := g1.fr (P := fun o => o = b) (Fr.up rfl) (by omega) (by omega)
      generalize up2 s1 b 9 (nextSeed (nextSeed (x.2.1.1 8))) = s2 at *
      obtain ⟨C2, hc2⟩ : ∃ C2, C2 = drawC C1 := ⟨_, rfl⟩
      rw [← hc2] at I2
      have k2 : C2.2 = x.2.1.2 := by rw [hc2, draw_2, k1]
      have z2 : sz C2 = sz x.2.1 := by rw [hc2, sz_draw, z1]
      have q2 : C2.1 8 = nextSeed (nextSeed (x.2.1.1 8)) := by rw [hc2, draw_8, q1]
      obtain ⟨e3, I3⟩ := c_draw (g := g) (l := l) (r := r) I2
      rw [q2] at e3 I3
      have f3 : Fr (inF b) s2 (up2 s2 b 9 (nextSeed (nextSeed (nextSeed (x.2.1.1 8))))) := Fr.up (Or.inl ⟨Nat.le_refl _, by omega⟩)
      have g3 : LgC (up2 s2 b 9 (nextSeed (nextSeed (nextSeed (x.2.1.1 8))))) b x.2.2 := g2.fr (P := fun o => o = b) (Fr.up rfl) (by omega) (by omega)
      generalize up2 s2 b 9 (nextSeed (nextSeed (nextSeed (x.2.1.1 8)))) = s3 at *
      obtain ⟨C3, hc3⟩ : ∃ C3, C3 = drawC C2 := ⟨_, rfl⟩
      rw [← hc3] at I3
      have hcd : dCo x.2.1 = C3 := by rw [hc3, hc2, hc1, dCo]
      have C3v : VC C3 := by rw [← hcd]; exact vc_dCo hC
      have k3 : C3.2 = x.2.1.2 := by rw [hc3, draw_2, k2]
      have z3 : sz C3 = sz x.2.1 := by rw [hc3, sz_draw, z2]
      have y3 : C3.1 3 = x.2.1.1 3 := by rw [hc3, draw_3, hc2, draw_3, hc1, draw_3]
      obtain ⟨t, t1, t2, t3⟩ := who_lt hC hi' h0 (nextSeed (nextSeed (x.2.1.1 8)))
      have hw : gAt x.2.1 i t = dWho x.2.1 i := by rw [dWho, t3]
      have hwl := dWho_ok hC hi' h0
      have nz : Int32.ofNat (ngov x.2.1 i) ≠ 0 := fun e => by
        have := (i_eq (b := 0) (by omega) (by omega)).mp e
        omega
      have eg : p2_governorAt (ob g b) (Int32.ofNat i) (Int32.ofNat t) (mm g s2 l r) = some (Int32.ofNat (dWho x.2.1 i)) := by
        rw [c_govAt I2 (q := i) (by rw [z2]; exact hi') (t := t) (by rw [ngov_ext k2 z2]; exact t1), ← hw, gAt_ext k2 z2]
      have hw3 : dWho x.2.1 i < sz C3 := by rw [z3]; exact hwl
      have hi3 : i < sz C3 := by rw [z3]; exact hi'
      have L3 : LIs s3 30 L := hL.frF hb ((f1.trans f2).trans f3)
      have e16 : getI (mm g s3 l r) (ob g (b + 6 + dWho x.2.1 i)) 9 6 = some (x.2.1.2 (dWho x.2.1 i) 6) := by rw [c_p I3 hw3 (show 6 < 9 by decide), k3]
      have e15 : p2_at (ob g b) (Int32.ofNat (dWho x.2.1 i)) (mm g s3 l r) = some (ob g (b + 6 + dWho x.2.1 i)) := c_at I3 hw3
      obtain ⟨s4, e4, f4⟩ := c_wt (g := g) (l := l) (r := r) (y := dYes x.2.1 i) I3 L3 hV (by have := vc_r C3v; omega) (p := dWho x.2.1 i) (q := i) hw3 hi3
      have I4 := I3.frW f4
      have g4 := g3.frW hb f4
      obtain ⟨s5, e5, I5, g5, f5⟩ := c_tell (g := g) (l := l) (r := r) I4 g4 (q := i) hi3 (x := Int32.ofNat (dWho x.2.1 i)) (w := wtF L C3 (dWho x.2.1 i) i (dYes x.2.1 i)) (y := dYes x.2.1 i)
      have f5' : Fr (inF b) s4 s5 := f5.mono (fun o ho => Or.inl ho)
      have fa : Fr (inF b) s s5 := ((((f1.trans f2).trans f3).trans (inW_F f4))).trans f5'
      have ed : dStep L i x = (x.1 + (if dYes x.2.1 i = true then 0 else 1), tellF C3 i (dYes x.2.1 i) (wtF L C3 (dWho x.2.1 i) i (dYes x.2.1 i)), push x.2.2 (rowF (C3.1 3) (Int32.ofNat (dWho x.2.1 i)) (Int32.ofNat i) (dYes x.2.1 i) (movedF C3 (C3.2 i 0) (wtF L C3 (dWho x.2.1 i) i (dYes x.2.1 i)) (dYes x.2.1 i)))) := by rw [dStep, if_neg h0, if_pos h1, hcd, y3, k3]
      refine ⟨s5, ?_, ?_⟩
      · refine ⟨?_, ?_, hL.frF hb fa, ok.1, ok.2.trans hn, hf.trans fa⟩
        · rw [ed]
          exact I5
        · rw [ed]
          exact g5
      · rw [ed]
        simp only [h1, if_true, e2, obs, remI_ne nz, t2, eg, e3, remI_ne n100, e15, e16]
        have key : p1_passDay_J86 (p1_passDay_L4 fuel) (ob g 80) (ob g b) x.1 (Int32.ofNat i) (Int32.ofNat (dWho x.2.1 i)) (ib (dYes x.2.1 i)) (mm g s3 l r) = p1_passDay_L4 fuel (ob g 80) (ob g b) (x.1 + (if dYes x.2.1 i = true then 0 else 1)) (Int32.ofNat (i + 1)) (mm g s5 l r) := by
          simp only [p1_passDay_J86, d_R1, obs, e4, e5, ib_z]
          rcases Bool.eq_false_or_eq_true (dYes x.2.1 i) with hy | hy <;> simp only [hy, if_true, if_false, Bool.false_eq_true, Bool.true_eq_false, reduceCtorEq, p1_passDay_J124, p1_passDay_J122, p1_passDay_J86, p1_passDay, i_succ]
        by_cases hy : rem32 (drV (nextSeed (nextSeed (nextSeed (x.2.1.1 8))))) 100 < x.2.1.2 (dWho x.2.1 i) 6
        · have hy2 : dYes x.2.1 i = false := by rw [dYes, decide_eq_true hy]; rfl
          rw [hy2] at key
          simp only [hy, if_true, hy2]
          exact key
        · have hy2 : dYes x.2.1 i = true := by rw [dYes, decide_eq_false hy]; rfl
          rw [hy2] at key
          simp only [hy, if_false, hy2]
          exact key
    · refine ⟨s1, ?_, ?_⟩
      · refine ⟨?_, ?_, hL.frF hb f1, ok.1, ok.2.trans hn, hf.trans f1⟩
        · rw [dStep, if_neg h0, if_neg h1, ← hc1]
          exact I1
        · rw [dStep, if_neg h0, if_neg h1]
          exact g1
      · simp only [h1, if_false, p1_passDay_J124, p1_passDay_J122, p1_passDay_J86, p1_passDay, i_succ]
        rw [dStep, if_neg h0, if_neg h1]
theorem c_oneday (hV : VL L) (hI : Is s b C) (hg : LgC s b G) (hL : LIs s 30 L) (hC : VC C) : ∃ s', p1_passDay (ob g 80) (ob g b) (mm g s l r) = some ((dayF L (C, G)).1, mm g s' l r) ∧ Is s' b (dayF L (C, G)).2.1 ∧ LgC s' b (dayF L (C, G)).2.2 ∧ Fr (inF b) s s' := by
  have := it_sf (L := fun n (a : Int32 × tS) i => p1_passDay_L4 n (ob g 80) (ob g b) a.1 i (mm g a.2 l r)) (R := fun _ a x => a.1 = x.1 ∧ CS s b L (sz C) a.2 x.2.1 x.2.2) (f := dStep L) (Q := fun B x => ∃ s', B = some (x.1, mm g s' l r) ∧ Is s' b (enC x.2.1) ∧ LgC s' b x.2.2 ∧ Fr (inF b) s s') (N := sz C) (fun n i a x hi hR => by
      obtain ⟨s', h1, h2⟩ := c_dStep (g := g) (l := l) (r := r) (fuel := n) hV hi hR.2
      refine ⟨((dStep L i x).1, s'), ⟨rfl, h1⟩, ?_⟩
      rw [← h2, hR.1]) (fun n a x hR => by
      obtain ⟨h0, hI, hg, hL, hC, hn, hf⟩ := hR
      obtain ⟨e1, I1⟩ := c_endDay (g := g) (l := l) (r := r) hI
      refine ⟨_, ?_, I1, hg.fr (P := fun o => o = b) (Fr.up rfl) (by omega) (by omega), hf.trans (Fr.up (Or.inl ⟨Nat.le_refl _, by omega⟩))⟩
      have hno : ¬ Int32.ofNat (sz C) < x.2.1.1 0 := by rw [← hn]; exact zc_no hI.2.1
      simp only [p1_passDay_L4, c_n hI, Option.bind_some, hno, if_false, e1, h0]) (sz C) gF 0 (0, s) (0, C, G) (by omega) (gF_gt (by have := hI.2.1.2; omega)) ⟨rfl, hI, hg, hL, hC, rfl, Fr.refl⟩
  rw [p1_passDay, d_gd]
  exact this
end
