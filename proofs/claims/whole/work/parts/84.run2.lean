/-! days in the class, more of them; days in the reference -/
section
variable {g : Nat} {s : tS} {l : tL} {r : Nat → Nat} {b : Nat} {C : Co} {L : Lw} {G : Lg}
theorem c_pass (hV : VL L) (hI : Is s b C) (hg : LgC s b G) (hL : LIs s 30 L) (hC : VC C) {n : Nat} (hn : n ≤ 1000) : ∃ s', p1_pass (ob g 80) (ob g b) (Int32.ofNat n) (mm g s l r) = some ((goF L n (C, G)).1, mm g s' l r) ∧ Is s' b (goF L n (C, G)).2.1 ∧ LgC s' b (goF L n (C, G)).2.2 ∧ Fr (inF b) s s' := by
  have hb := hI.1
  have := it_sf (L := fun n' (a : Int32 × tS) i => p1_pass_L5 n' (ob g 80) (ob g b) (Int32.ofNat n) a.1 i (mm g a.2 l r)) (R := fun _ a x => a.1 = x.1 ∧ CS s b L (sz C) a.2 x.2.1 x.2.2) (f := fun _ (z : Int32 × Co × Lg) => (z.1 + (dayF L z.2).1, (dayF L z.2).2)) (Q := fun B x => ∃ s', B = some (x.1, mm g s' l r) ∧ Is s' b x.2.1 ∧ LgC s' b x.2.2 ∧ Fr (inF b) s s') (N := n) (fun m i a x hi hR => by
      obtain ⟨h0, hI, hg, hL, hC, hz, hf⟩ := hR
      obtain ⟨s', e1, I1, g1, f1⟩ := c_oneday (g := g) (l := l) (r := r) hV hI hg hL hC
      have ok := dayF_ok (L := L) (x := x.2) hV hC
      have c : Int32.ofNat i < Int32.ofNat n := (i_lt (by omega) (by omega)).mpr hi
      refine ⟨(a.1 + (dayF L x.2).1, s'), ⟨by rw [h0], I1, g1, hL.frF hb f1, ok.1, ok.2.trans hz, hf.trans f1⟩, ?_⟩
      simp only [p1_pass_L5, c, if_true, e1, obs, i_succ]) (fun m a x hR => by
      obtain ⟨h0, hI, hg, hL, hC, hz, hf⟩ := hR
      refine ⟨a.2, ?_, hI, hg, hf⟩
      simp only [p1_pass_L5, Int32.lt_irrefl, if_false, h0]) n gF 0 (0, s) (0, C, G) (by omega) (gF_gt (by omega)) ⟨rfl, hI, hg, hL, hC, rfl, Fr.refl⟩
  rw [p1_pass, d_gd]
  exact this
theorem c_ahead (hV : VL L) {y : Bool} (hI : Is s b C) (hg : LgC s b G) (hL : LIs s 30 L) (hC : VC C) : ∃ s' G', p1_passAhead (ob g 80) (ob g b) (ib y) (mm g s l r) = some (mm g s' l r) ∧ Is s' b (aheadF L y C) ∧ LgC s' b G' ∧ Fr (inF b) s s' := by
  have hb := hI.1
  have := it_sf (L := fun n (a : tS) i => p1_passAhead_L2 n (ob g 80) (ob g b) (ib y) i (mm g a l r)) (R := fun _ a x => ∃ G, CS s b L (sz C) a x G) (f := aStep L y) (Q := fun B x => ∃ s' G', B = some (mm g s' l r) ∧ Is s' b (enC x) ∧ LgC s' b G' ∧ Fr (inF b) s s') (N := sz C) (fun n i s1 x hi hR => by
      obtain ⟨G, hI, hg, hL, hC, hz, hf⟩ := hR
      have hi' : i < sz x := by rw [hz]; exact hi
      have ok := aStep_ok (y := y) (i := i) hV hC hi'
      by_cases h0 : x.2 i 8 = 0
      · refine ⟨s1, ⟨G, ?_⟩, ?_⟩
        · rw [aStep, if_pos h0]
          exact ⟨hI, hg, hL, hC, hz, hf⟩
        · simp only [p1_passAhead_L2, c_n hI, zc_yes hI.2.1 hi', obs, if_true, c_at hI hi', c_p hI hi' (show 8 < 9 by decide), h0, p1_passAhead_J50, p1_passAhead, i_succ]
      · have hng : 0 < ngov x i := by
          have : ngov x i ≠ 0 := fun hc => h0 ((ngov_z hC hi').mp hc)
          omega
        have eg : p2_governorAt (ob g b) (Int32.ofNat i) 0 (mm g s1 l r) = some (Int32.ofNat (gAt x i 0)) := c_govAt (t := 0) hI hi' hng
        have hw := (gAt_ok hng).1
        obtain ⟨s2, e2, f2⟩ := c_wt (g := g) (l := l) (r := r) (y := y) hI hL hV (by have := vc_r hC; omega) hw hi'
        obtain ⟨s3, e3, I3, g3, f3⟩ := c_tell (g := g) (l := l) (r := r) (hI.frW f2) (hg.frW hb f2) hi' (x := Int32.ofNat (gAt x i 0)) (w := wtF L x (gAt x i 0) i y) (y := y)
        have fa : Fr (inF b) s1 s3 := (inW_F f2).trans (f3.mono (fun o ho => Or.inl ho))
        refine ⟨s3, ⟨_, ?_, g3, hL.frF hb fa, ok.1, ok.2.trans hz, hf.trans fa⟩, ?_⟩
        · rw [aStep, if_neg h0]
          exact I3
        · simp only [p1_passAhead_L2, c_n hI, zc_yes hI.2.1 hi', obs, if_true, c_at hI hi', c_p hI hi' (show 8 < 9 by decide), h0, if_false, eg, d_R1, e2, e3, p1_passAhead_J50, p1_passAhead, i_succ]) (fun n a x hR => by
      obtain ⟨G, hI, hg, hL, hC, hn, hf⟩ := hR
      obtain ⟨e1, I1⟩ := c_endDay (g := g) (l := l) (r := r) hI
      refine ⟨_, G, ?_, I1, hg.fr (P := fun o => o = b) (Fr.up rfl) (by omega) (by omega), hf.trans (Fr.up (Or.inl ⟨Nat.le_refl _, by omega⟩))⟩
      have hno : ¬ Int32.ofNat (sz C) < x.1 0 := by rw [← hn]; exact zc_no hI.2.1
      simp only [p1_passAhead_L2, c_n hI, obs, hno, if_false, e1]) (sz C) gF 0 s C (by omega) (gF_gt (by have := hI.2.1.2; omega)) ⟨G, hI, hg, hL, hC, rfl, Fr.refl⟩
  rw [p1_passAhead, d_gd]
  exact this
/-- the reference's state in a day -/
def MS2 (s0 : tS) (L : Lw) (n : Nat) (s : tS) (C : Co) (G : Lg) : Prop := Ms s C ∧ LgM (s 288) G ∧ LMs s L ∧ VC C ∧ sz C = n ∧ Fw pL s0 s
theorem m_dStep (hV : VL L) {s0 : tS} {n i fuel : Nat} {x : Int32 × Co × Lg} (hi : i < n) (h : MS2 s0 L n s x.2.1 x.2.2) : ∃ s', MS2 s0 L n s' (dStep L i x).2.1 (dStep L i x).2.2 ∧ p12_oneDay_L4 (fuel + 1) (ob g 287) x.1 (Int32.ofNat i) (mm g s l r) = p12_oneDay_L4 fuel (ob g 287) (dStep L i x).1 (Int32.ofNat (i + 1)) (mm g s' l r) := by
  obtain ⟨hM, hg, hL, hC, hn, hf⟩ := h
  have hi' : i < sz x.2.1 := by rw [hn]; exact hi
  have ok := dStep_ok (i := i) hV hC hi'
  have h8 := ngov_8 (q := i) hC
  have n100 : (100 : Int32) ≠ 0 := by decide
  have p8 : pL 8 := by unfold pL; omega
  rw [p12_oneDay_L4]
  simp only [m_people hM, zc_yes hM.1 hi', obs, if_true, m_of8 hM hi']
  by_cases h0 : x.2.1.2 i 8 = 0
  · refine ⟨s, ?_, ?_⟩
    · rw [dStep, if_pos h0]
      exact ⟨hM, hg, hL, hC, hn, hf⟩
    · simp only [h0, if_true, p12_oneDay_J110, p12_oneDay_J108, p12_oneDay_J94, p12_oneDay_J78, p12_oneDay, i_succ]
      rw [dStep, if_pos h0]
  · obtain ⟨e1, M1⟩ := m_drawn (g := g) (l := l) (r := r) hM n100
    have f1 : Fw pL s (up2 s 288 8 (nextSeed (x.2.1.1 8))) := Fw.up p8
    have g1 : LgM (up2 s 288 8 (nextSeed (x.2.1.1 8)) 288) x.2.2 := hg.fm (Fw.up (by unfold pC; omega))
    generalize up2 s 288 8 (nextSeed (x.2.1.1 8)) = s1 at *
    obtain ⟨C1, hc1⟩ : ∃ C1, C1 = drawC x.2.1 := ⟨_, rfl⟩
    rw [← hc1] at M1
    have k1 : C1.2 = x.2.1.2 := by rw [hc1, draw_2]
    have z1 : sz C1 = sz x.2.1 := by rw [hc1, sz_draw]
    have i1 : i < sz C1 := by rw [z1]; exact hi'
    simp only [h0, if_false, e1, obs, m_of5 M1 i1, k1]
    by_cases h1 : rem32 (drV (nextSeed (x.2.1.1 8))) 100 < x.2.1.2 i 5
    · obtain ⟨t, t1, t2, t3⟩ := who_lt hC hi' h0 (nextSeed (nextSeed (x.2.1.1 8)))
      have nz : Int32.ofNat (ngov x.2.1 i) ≠ 0 := fun e => by
        have := (i_eq (b := 0) (by omega) (by omega)).mp e
        omega
      obtain ⟨e2, M2⟩ := m_drawn (g := g) (l := l) (r := r) M1 nz
      have q1 : C1.1 8 = nextSeed (x.2.1.1 8) := by rw [hc1, draw_8]
      rw [q1] at e2 M2
      have f2 : Fw pL s1 (up2 s1 288 8 (nextSeed (nextSeed (x.2.1.1 8)))) := Fw.up p8
      have g2 : LgM (up2 s1 288 8 (nextSeed (nextSeed (x.2.1.1 8))) 288) x.2.2 := g1.fm (Fw.up (by unfold pC; omega))
      generalize up2 s1 288 8 (nextSeed (nextSeed (x.2.1.1 8))) = s2 at *
      obtain ⟨C2, hc2⟩ : ∃ C2, C2 = drawC C1 := ⟨_, rfl⟩
      rw [← hc2] at M2
      have z2 : sz C2 = sz x.2.1 := by rw [hc2, sz_draw, z1]
      have q2 : C2.1 8 = nextSeed (nextSeed (x.2.1.1 8)) := by rw [hc2, draw_8, q1]
      obtain ⟨e3, M3⟩ := m_drawn (g := g) (l := l) (r := r) M2 n100
      rw [q2] at e3 M3
      have f3 : Fw pL s2 (up2 s2 288 8 (nextSeed (nextSeed (nextSeed (x.2.1.1 8))))) := Fw.up p8
      have g3 : LgM (up2 s2 288 8 (nextSeed (nextSeed (nextSeed (x.2.1.1 8)))) 288) x.2.2 := g2.fm (Fw.up (by unfold pC; omega))
      generalize up2 s2 288 8 (nextSeed (nextSeed (nextSeed (x.2.1.1 8)))) = s3 at *
      obtain ⟨C3, hc3⟩ : ∃ C3, C3 = drawC C2 := ⟨_, rfl⟩
      rw [← hc3] at M3
      have hcd : dCo x.2.1 = C3 := by rw [hc3, hc2, hc1, dCo]
      have C3v : VC C3 := by rw [← hcd]; exact vc_dCo hC
      have k3 : C3.2 = x.2.1.2 := by rw [hc3, draw_2, hc2, draw_2, k1]
      have z3 : sz C3 = sz x.2.1 := by rw [hc3, sz_draw, z2]
      have y3 : C3.1 3 = x.2.1.1 3 := by rw [hc3, draw_3, hc2, draw_3, hc1, draw_3]
      have hw : gAt x.2.1 i t = dWho x.2.1 i := by rw [dWho, t3]
      have hwl := dWho_ok hC hi' h0
      have eg : p12_oneOf (x.2.1.2 i 8) (Int32.ofNat t) (mm g s2 l r) = some (Int32.ofNat (dWho x.2.1 i)) := by rw [m_oneOf hC hi' t1, ← hw]
      have hw3 : dWho x.2.1 i < sz C3 := by rw [z3]; exact hwl
      have hi3 : i < sz C3 := by rw [z3]; exact hi'
      have fa := (f1.trans f2).trans f3
      have e16 : p12_of (ob g 287) (Int32.ofNat (dWho x.2.1 i)) 6 (mm g s3 l r) = some (x.2.1.2 (dWho x.2.1 i) 6) := by rw [m_of6 M3 hw3, k3]
      obtain ⟨s4, e4, M4, g4, f4⟩ := m_says (g := g) (l := l) (r := r) (y := dYes x.2.1 i) M3 g3 (hL.fm hV fa) hV C3v (p := dWho x.2.1 i) (q := i) hw3 hi3
      have ed : dStep L i x = (x.1 + (if dYes x.2.1 i = true then 0 else 1), tellF C3 i (dYes x.2.1 i) (wtF L C3 (dWho x.2.1 i) i (dYes x.2.1 i)), push x.2.2 (rowF (C3.1 3) (Int32.ofNat (dWho x.2.1 i)) (Int32.ofNat i) (dYes x.2.1 i) (movedF C3 (C3.2 i 0) (wtF L C3 (dWho x.2.1 i) i (dYes x.2.1 i)) (dYes x.2.1 i)))) := by rw [dStep, if_neg h0, if_pos h1, hcd, y3, k3]
      refine ⟨s4, ?_, ?_⟩
      · refine ⟨?_, ?_, hL.fm hV (fa.trans f4), ok.1, ok.2.trans hn, hf.trans (fa.trans f4)⟩
        · rw [ed]
          exact M4
        · rw [ed]
          exact g4
      · rw [ed]
        have eb : pJ6_bitCount (x.2.1.2 i 8) (mm g s1 l r) = some (Int32.ofNat (ngov x.2.1 i)) := bc_gov hC hi'
        simp only [h1, if_true, eb, e2, obs, t2, eg, e3, e16]
        by_cases hy : rem32 (drV (nextSeed (nextSeed (nextSeed (x.2.1.1 8))))) 100 < x.2.1.2 (dWho x.2.1 i) 6
        · have hy2 : dYes x.2.1 i = false := by rw [dYes, decide_eq_true hy]; rfl
          rw [hy2, ib_f] at e4
          simp only [hy, if_true, hy2, p12_oneDay_J110, p12_oneDay_J108, p12_oneDay_J94, p12_oneDay_J78, p12_oneDay, one_z, if_false, e4, obs, i_succ, Bool.false_eq_true]
        · have hy2 : dYes x.2.1 i = true := by rw [dYes, decide_eq_false hy]; rfl
          rw [hy2, ib_t] at e4
          simp only [hy, if_false, hy2, p12_oneDay_J110, p12_oneDay_J108, p12_oneDay_J94, p12_oneDay_J78, p12_oneDay, if_true, e4, obs, i_succ]
    · refine ⟨s1, ?_, ?_⟩
      · refine ⟨?_, ?_, hL.fm hV f1, ok.1, ok.2.trans hn, hf.trans f1⟩
        · rw [dStep, if_neg h0, if_neg h1, ← hc1]
          exact M1
        · rw [dStep, if_neg h0, if_neg h1]
          exact g1
      · simp only [h1, if_false, p12_oneDay_J110, p12_oneDay_J108, p12_oneDay_J94, p12_oneDay_J78, p12_oneDay, i_succ]
        rw [dStep, if_neg h0, if_neg h1]
theorem m_oneday (hV : VL L) (hM : Ms s C) (hg : LgM (s 288) G) (hL : LMs s L) (hC : VC C) : ∃ s', p12_oneDay (ob g 287) (mm g s l r) = some ((dayF L (C, G)).1, mm g s' l r) ∧ Ms s' (dayF L (C, G)).2.1 ∧ LgM (s' 288) (dayF L (C, G)).2.2 ∧ Fw pL s s' := by
  have := it_sf (L := fun n (a : Int32 × tS) i => p12_oneDay_L4 n (ob g 287) a.1 i (mm g a.2 l r)) (R := fun _ a x => a.1 = x.1 ∧ MS2 s L (sz C) a.2 x.2.1 x.2.2) (f := dStep L) (Q := fun B x => ∃ s', B = some (x.1, mm g s' l r) ∧ Ms s' (enC x.2.1) ∧ LgM (s' 288) x.2.2 ∧ Fw pL s s') (N := sz C) (fun n i a x hi hR => by
      obtain ⟨s', h1, h2⟩ := m_dStep (g := g) (l := l) (r := r) (fuel := n) hV hi hR.2
      refine ⟨((dStep L i x).1, s'), ⟨rfl, h1⟩, ?_⟩
      rw [← h2, hR.1]) (fun n a x hR => by
      obtain ⟨h0, hM, hg, hL, hC, hn, hf⟩ := hR
      obtain ⟨e1, M1⟩ := m_endDay (g := g) (l := l) (r := r) hM
      refine ⟨_, ?_, M1, hg.fm (Fw.up (by unfold pC; omega)), hf.trans (Fw.up (by unfold pL; omega))⟩
      have hno : ¬ Int32.ofNat (sz C) < x.2.1.1 0 := by rw [← hn]; exact zc_no hM.1
      simp only [p12_oneDay_L4, m_people hM, obs, hno, if_false, e1, h0]) (sz C) gF 0 (0, s) (0, C, G) (by omega) (gF_gt (by have := hM.1.2; omega)) ⟨rfl, hM, hg, hL, hC, rfl, Fw.refl⟩
  rw [p12_oneDay, w_gd]
  exact this
theorem m_pass (hV : VL L) (hM : Ms s C) (hg : LgM (s 288) G) (hL : LMs s L) (hC : VC C) {n : Nat} (hn : n ≤ 1000) : ∃ s', p12_goesOn (ob g 287) (Int32.ofNat n) (mm g s l r) = some ((goF L n (C, G)).1, mm g s' l r) ∧ Ms s' (goF L n (C, G)).2.1 ∧ LgM (s' 288) (goF L n (C, G)).2.2 ∧ Fw pL s s' := by
  have := it_sf (L := fun n' (a : Int32 × tS) i => p12_goesOn_L4 n' (ob g 287) (Int32.ofNat n) a.1 i (mm g a.2 l r)) (R := fun _ a x => a.1 = x.1 ∧ MS2 s L (sz C) a.2 x.2.1 x.2.2) (f := fun _ (z : Int32 × Co × Lg) => (z.1 + (dayF L z.2).1, (dayF L z.2).2)) (Q := fun B x => ∃ s', B = some (x.1, mm g s' l r) ∧ Ms s' x.2.1 ∧ LgM (s' 288) x.2.2 ∧ Fw pL s s') (N := n) (fun m i a x hi hR => by
      obtain ⟨h0, hM, hg, hL, hC, hz, hf⟩ := hR
      obtain ⟨s', e1, I1, g1, f1⟩ := m_oneday (g := g) (l := l) (r := r) hV hM hg hL hC
      have ok := dayF_ok (L := L) (x := x.2) hV hC
      have c : Int32.ofNat i < Int32.ofNat n := (i_lt (by omega) (by omega)).mpr hi
      refine ⟨(a.1 + (dayF L x.2).1, s'), ⟨by rw [h0], I1, g1, hL.fm hV f1, ok.1, ok.2.trans hz, hf.trans f1⟩, ?_⟩
      simp only [p12_goesOn_L4, c, if_true, e1, obs, i_succ]) (fun m a x hR => by
      obtain ⟨h0, hI, hg, hL, hC, hz, hf⟩ := hR
      refine ⟨a.2, ?_, hI, hg, hf⟩
      simp only [p12_goesOn_L4, Int32.lt_irrefl, if_false, h0]) n gF 0 (0, s) (0, C, G) (by omega) (gF_gt (by omega)) ⟨rfl, hM, hg, hL, hC, rfl, Fw.refl⟩
  rw [p12_goesOn, w_gd]
  exact this
theorem pC7 {P : Nat → Prop} {s s' : tS} (h : Fw pC s s') (k : ∀ i, pC i → P i) : Fw P s s' := h.mono k
theorem m_ahead (hV : VL L) {y : Bool} (hM : Ms s C) (hL : LMs s L) (hC : VC C) : ∃ s', p12_dayOf (ob g 287) (ib y) (mm g s l r) = some (mm g s' l r) ∧ Ms s' (aheadF L y C) ∧ Fw pC s s' := by
  have := it_sf (L := fun n (a : tS) i => p12_dayOf_L2 n (ob g 287) (ib y) i (mm g a l r)) (R := fun _ a x => MS s pC L (sz C) a x) (f := aStep L y) (Q := fun B x => ∃ s', B = some (mm g s' l r) ∧ Ms s' (enC x) ∧ Fw pC s s') (N := sz C) (fun n i s1 x hi hR => by
      obtain ⟨hM, hL, hC, hz, hf⟩ := hR
      have hi' : i < sz x := by rw [hz]; exact hi
      have ok := aStep_ok (y := y) (i := i) hV hC hi'
      by_cases h0 : x.2 i 8 = 0
      · refine ⟨s1, ?_, ?_⟩
        · rw [aStep, if_pos h0]
          exact ⟨hM, hL, hC, hz, hf⟩
        · simp only [p12_dayOf_L2, m_people hM, zc_yes hM.1 hi', obs, if_true, m_of8 hM hi', h0, p12_dayOf_J37, p12_dayOf, i_succ]
      · have hng : 0 < ngov x i := by
          have : ngov x i ≠ 0 := fun hc => h0 ((ngov_z hC hi').mp hc)
          omega
        have eg : p12_oneOf (x.2 i 8) 0 (mm g s1 l r) = some (Int32.ofNat (gAt x i 0)) := m_oneOf (t := 0) hC hi' hng
        have hw := (gAt_ok hng).1
        obtain ⟨s2, e2, M2, f2⟩ := m_hears (g := g) (l := l) (r := r) (y := y) hM hL hV hC hw hi'
        refine ⟨s2, ⟨?_, hL.fm hV (f2.mono (fun i hi => pCL hi)), ok.1, ok.2.trans hz, hf.trans f2⟩, ?_⟩
        · rw [aStep, if_neg h0]
          exact M2
        · simp only [p12_dayOf_L2, m_people hM, zc_yes hM.1 hi', obs, if_true, m_of8 hM hi', h0, if_false, eg, e2, p12_dayOf_J37, p12_dayOf, i_succ]) (fun n a x hR => by
      obtain ⟨hM, hL, hC, hn, hf⟩ := hR
      obtain ⟨e1, M1⟩ := m_endDay (g := g) (l := l) (r := r) hM
      refine ⟨_, ?_, M1, hf.trans (Fw.up (by unfold pC; omega))⟩
      have hno : ¬ Int32.ofNat (sz C) < x.1 0 := by rw [← hn]; exact zc_no hM.1
      simp only [p12_dayOf_L2, m_people hM, obs, hno, if_false, e1]) (sz C) gF 0 s C (by omega) (gF_gt (by have := hM.1.2; omega)) ⟨hM, hL, hC, rfl, Fw.refl⟩
  rw [p12_dayOf, w_gd]
  exact this
end
