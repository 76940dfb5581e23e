section
variable {g : Nat} {s : tS} {l : tL} {r : Nat → Nat} {C : Co} {G : Lg} {L : Lw}
/-! RESTS -/
def eg (a b st : Int32) : Int32 := if b = 1 then a else if a = 0 then st else -1
def cg (a b no ye : Int32) : Int32 := if b = 1 then 0 else if a = 0 then -no else ye
def rsC (st no ye a b x : Int32) : Int32 := if eg a b st < eg (1 - a) b st then x else if cg a b no ye < cg a (1 - b) no ye then x else x ||| ((1 : Int32) <<< ((2 * a + b) &&& 31))
def rsI (st no ye : Int32) (i : Nat) (x : Int32) : Int32 := itF (fun j x => rsC st no ye (Int32.ofNat i) (Int32.ofNat j) x) 2 0 x
def rsR (st no ye : Int32) : Int32 := itF (rsI st no ye) 2 0 0
theorem lt2_y {i : Nat} (h : i < 2) : (Int32.ofNat i < 2) = True := eq_true ((i_lt (b := 2) (by omega) (by decide)).mpr h)
theorem lt2_n : ((Int32.ofNat 2 : Int32) < 2) = False := eq_false (by decide)
theorem c_eg {a b st : Int32} : p10_gainOfOne a b st (mm g s l r) = some (eg a b st) := by
  unfold p10_gainOfOne eg
  by_cases h1 : b = 1
  · rw [if_pos h1, if_pos h1]
  · rw [if_neg h1, if_neg h1]
    by_cases h2 : a = 0
    · rw [if_pos h2, if_pos h2, p10_gainOfOne_J16]
    · rw [if_neg h2, if_neg h2, p10_gainOfOne_J16]
theorem c_cg {a b no ye : Int32} : p10_gainOfOther a b no ye (mm g s l r) = some (cg a b no ye) := by
  unfold p10_gainOfOther cg
  by_cases h1 : b = 1
  · rw [if_pos h1, if_pos h1]
  · rw [if_neg h1, if_neg h1]
    by_cases h2 : a = 0
    · rw [if_pos h2, if_pos h2, p10_gainOfOther_J17]
    · rw [if_neg h2, if_neg h2, p10_gainOfOther_J17]
theorem c_rests {st no ye : Int32} : p10_restingChoices (ob g 118) st no ye (mm g s l r) = some (rsR st no ye) := by
  rw [p10_restingChoices, y_gd]
  refine it_sf (L := fun n (a : Int32) i => p10_restingChoices_L6 (mm g s l r) n st no ye a i) (R := fun _ a x => a = x) (f := rsI st no ye) (Q := fun B x => B = some x) (N := 2) (fun n i a x hi hR => ?_) (fun n a x hR => ?_) 2 gF 0 0 0 (by omega) (gF_gt (by omega)) rfl
  · subst hR
    refine ⟨rsI st no ye i a, rfl, ?_⟩
    simp only [p10_restingChoices_L6, lt2_y hi, if_true]
    refine it_sf (L := fun m (a' : Int32) j => p10_restingChoices_L15 (mm g s l r) (p10_restingChoices_J85 (mm g s l r) (p10_restingChoices_L6 (mm g s l r) n)) m st no ye a' (Int32.ofNat i) j) (R := fun _ a x => a = x) (f := fun j x => rsC st no ye (Int32.ofNat i) (Int32.ofNat j) x) (Q := fun B x => B = p10_restingChoices_L6 (mm g s l r) n st no ye x (Int32.ofNat (i + 1))) (N := 2) (fun m j b x hj hR => ?_) (fun m b x hR => ?_) 2 gF 0 a a (by omega) (gF_gt (by omega)) rfl
    · subst hR
      refine ⟨rsC st no ye (Int32.ofNat i) (Int32.ofNat j) b, rfl, ?_⟩
      unfold rsC
      by_cases h1 : eg (Int32.ofNat i) (Int32.ofNat j) st < eg (1 - Int32.ofNat i) (Int32.ofNat j) st
      · simp only [p10_restingChoices_L15, lt2_y hj, if_true, c_eg, obs, h1, p10_restingChoices_J79, p10_restingChoices_J85, p10_restingChoices, i_succ]
      · by_cases h2 : cg (Int32.ofNat i) (Int32.ofNat j) no ye < cg (Int32.ofNat i) (1 - Int32.ofNat j) no ye
        · simp only [p10_restingChoices_L15, lt2_y hj, if_true, c_eg, c_cg, obs, h1, h2, if_false, p10_restingChoices_J79, p10_restingChoices_J85, p10_restingChoices, i_succ]
        · simp only [p10_restingChoices_L15, lt2_y hj, if_true, c_eg, c_cg, obs, h1, h2, if_false, p10_restingChoices_J79, p10_restingChoices_J85, p10_restingChoices, i_succ]
    · subst hR
      simp only [p10_restingChoices_L15, lt2_n, if_false, p10_restingChoices_J79, p10_restingChoices_J85, p10_restingChoices, i_succ]
  · subst hR
    simp only [p10_restingChoices_L6, lt2_n, if_false]
theorem a01 : ∀ i, i < 2 → (Int32.ofNat i = 0 ∨ Int32.ofNat i = 1) ∧ ((1 : Int32) - Int32.ofNat i = 0 ∨ (1 : Int32) - Int32.ofNat i = 1) := by decide
theorem ten_nz : (10 : Int32) ≠ 0 := by decide
theorem m_eg {p : Nat} {a b : Int32} (h : Ms s C) (hp : p < sz C) (ha : a = 0 ∨ a = 1) : p12_elderHas (ob g 287) (Int32.ofNat p) a b (mm g s l r) = some (eg a b (C.2 p 6 / 10)) := by
  unfold p12_elderHas eg
  rw [w_gd]
  by_cases h1 : b = 1
  · rw [if_pos h1, if_pos h1]
  · rw [if_neg h1, if_neg h1]
    rcases ha with ha | ha
    · have h3 : ¬ (0 : Int32) = 1 := by decide
      subst ha
      rw [if_neg h3, if_pos rfl, m_of6 h hp, obs, divI_ne ten_nz, obs, p12_elderHas_J26]
    · have h3 : ¬ (1 : Int32) = 0 := by decide
      subst ha
      rw [if_pos rfl, if_neg h3, p12_elderHas_J26]
theorem m_cg {p q : Nat} {a b : Int32} (h : Ms s C) (hL : LMs s L) (hV : VL L) (hr : 0 < (C.1 4).toInt) (hp : p < sz C) (hq : q < sz C) (ha : a = 0 ∨ a = 1) : ∃ s', p12_childHas (ob g 287) (Int32.ofNat p) (Int32.ofNat q) a b (mm g s l r) = some (cg a b (wtF L C p q false) (wtF L C p q true), mm g s' l r) ∧ Fr (fun o => o = 295) s s' := by
  unfold p12_childHas cg
  rw [w_gd]
  by_cases h1 : b = 1
  · rw [if_pos h1, if_pos h1]
    exact ⟨s, rfl, Fr.refl⟩
  · rw [if_neg h1, if_neg h1]
    rcases ha with ha | ha
    · have h3 : ¬ (0 : Int32) = 1 := by decide
      subst ha
      obtain ⟨s1, e1, f1⟩ := m_wt (g := g) (l := l) (r := r) (y := false) h hL hV hr hp hq
      have e1 : p12_weighsOf (ob g 287) (Int32.ofNat p) (Int32.ofNat q) 0 (mm g s l r) = some (wtF L C p q false, mm g s1 l r) := e1
      rw [if_neg h3, if_pos rfl, e1, obs, p12_childHas_J31]
      exact ⟨s1, rfl, f1⟩
    · have h3 : ¬ (1 : Int32) = 0 := by decide
      subst ha
      obtain ⟨s1, e1, f1⟩ := m_wt (g := g) (l := l) (r := r) (y := true) h hL hV hr hp hq
      have e1 : p12_weighsOf (ob g 287) (Int32.ofNat p) (Int32.ofNat q) 1 (mm g s l r) = some (wtF L C p q true, mm g s1 l r) := e1
      rw [if_pos rfl, if_neg h3, e1, obs, p12_childHas_J31]
      exact ⟨s1, rfl, f1⟩
theorem m_rests {p q : Nat} (h : Ms s C) (hL : LMs s L) (hV : VL L) (hr : 0 < (C.1 4).toInt) (hp : p < sz C) (hq : q < sz C) : ∃ s', p12_rests_L38 gF (ob g 287) (Int32.ofNat p) (Int32.ofNat q) 0 0 (mm g s l r) = some (rsR (C.2 p 6 / 10) (wtF L C p q false) (wtF L C p q true), mm g s' l r) ∧ Fr (fun o => o = 295) s s' := by
  refine it_sf (L := fun n (a : Int32 × tS) i => p12_rests_L38 n (ob g 287) (Int32.ofNat p) (Int32.ofNat q) a.1 i (mm g a.2 l r)) (R := fun _ a x => a.1 = x ∧ Fr (fun o => o = 295) s a.2) (f := rsI (C.2 p 6 / 10) (wtF L C p q false) (wtF L C p q true)) (Q := fun B x => ∃ s', B = some (x, mm g s' l r) ∧ Fr (fun o => o = 295) s s') (N := 2) (fun n i a x hi hR => ?_) (fun n a x hR => ?_) 2 gF 0 (0, s) 0 (by omega) (gF_gt (by omega)) ⟨rfl, Fr.refl⟩
  · obtain ⟨a1, sa⟩ := a
    obtain ⟨hx, hf⟩ := hR
    have hx : a1 = x := hx
    have hf : Fr (fun o => o = 295) s sa := hf
    subst hx
    have key : ∃ s', p12_rests_L47 (p12_rests_J135 (p12_rests_L38 n)) gF (ob g 287) (Int32.ofNat p) (Int32.ofNat q) a1 (Int32.ofNat i) 0 (mm g sa l r) = p12_rests_L38 n (ob g 287) (Int32.ofNat p) (Int32.ofNat q) (rsI (C.2 p 6 / 10) (wtF L C p q false) (wtF L C p q true) i a1) (Int32.ofNat (i + 1)) (mm g s' l r) ∧ Fr (fun o => o = 295) s s' := by
      refine it_sf (L := fun m (a : Int32 × tS) j => p12_rests_L47 (p12_rests_J135 (p12_rests_L38 n)) m (ob g 287) (Int32.ofNat p) (Int32.ofNat q) a.1 (Int32.ofNat i) j (mm g a.2 l r)) (R := fun _ a x => a.1 = x ∧ Fr (fun o => o = 295) s a.2) (f := fun j x => rsC (C.2 p 6 / 10) (wtF L C p q false) (wtF L C p q true) (Int32.ofNat i) (Int32.ofNat j) x) (Q := fun B x => ∃ s', B = p12_rests_L38 n (ob g 287) (Int32.ofNat p) (Int32.ofNat q) x (Int32.ofNat (i + 1)) (mm g s' l r) ∧ Fr (fun o => o = 295) s s') (N := 2) (fun m j b x hj hR => ?_) (fun m b x hR => ?_) 2 gF 0 (a1, sa) a1 (by omega) (gF_gt (by omega)) ⟨rfl, hf⟩
      · obtain ⟨b1, sb⟩ := b
        obtain ⟨hx, hg⟩ := hR
        have hx : b1 = x := hx
        have hg : Fr (fun o => o = 295) s sb := hg
        subst hx
        have M1 := h.f hg
        have L1 := hL.f hg
        obtain ⟨z1, z2⟩ := a01 i hi
        unfold rsC
        by_cases h1 : eg (Int32.ofNat i) (Int32.ofNat j) (C.2 p 6 / 10) < eg (1 - Int32.ofNat i) (Int32.ofNat j) (C.2 p 6 / 10)
        · refine ⟨(b1, sb), ⟨(if_pos h1).symm, hg⟩, ?_⟩
          simp only [p12_rests_L47, lt2_y hj, if_true, m_eg M1 hp z1, m_eg M1 hp z2, obs, h1, p12_rests_J31, p12_rests_J127, p12_rests_J106, p12_rests_J105, p12_rests_J135, p12_rests_J24, p12_rests, or0, i_succ]
        · obtain ⟨s2, e2, f2⟩ := m_cg (g := g) (l := l) (r := r) (b := Int32.ofNat j) M1 L1 hV hr hp hq z1
          obtain ⟨s3, e3, f3⟩ := m_cg (g := g) (l := l) (r := r) (b := 1 - Int32.ofNat j) (M1.f f2) (L1.f f2) hV hr hp hq z1
          by_cases h2 : cg (Int32.ofNat i) (Int32.ofNat j) (wtF L C p q false) (wtF L C p q true) < cg (Int32.ofNat i) (1 - Int32.ofNat j) (wtF L C p q false) (wtF L C p q true)
          · refine ⟨(b1, s3), ⟨by rw [if_neg h1, if_pos h2], (hg.trans f2).trans f3⟩, ?_⟩
            simp only [p12_rests_L47, lt2_y hj, if_true, m_eg M1 hp z1, m_eg M1 hp z2, obs, h1, if_false, e2, e3, h2, p12_rests_J31, p12_rests_J127, p12_rests_J106, p12_rests_J105, p12_rests_J135, p12_rests_J24, p12_rests, or0, i_succ]
          · refine ⟨(b1 ||| ((1 : Int32) <<< ((2 * Int32.ofNat i + Int32.ofNat j) &&& 31)), s3), ⟨by rw [if_neg h1, if_neg h2], (hg.trans f2).trans f3⟩, ?_⟩
            simp only [p12_rests_L47, lt2_y hj, if_true, m_eg M1 hp z1, m_eg M1 hp z2, obs, h1, if_false, e2, e3, h2, p12_rests_J31, p12_rests_J127, p12_rests_J106, p12_rests_J105, p12_rests_J135, p12_rests_J24, p12_rests, one_z, i_succ]
      · obtain ⟨b1, sb⟩ := b
        obtain ⟨hx, hg⟩ := hR
        have hx : b1 = x := hx
        subst hx
        refine ⟨sb, ?_, hg⟩
        simp only [p12_rests_L47, lt2_n, if_false, p12_rests_J31, p12_rests_J127, p12_rests_J106, p12_rests_J105, p12_rests_J135, p12_rests_J24, p12_rests, i_succ]
    obtain ⟨s', e1, f1⟩ := key
    refine ⟨(rsI (C.2 p 6 / 10) (wtF L C p q false) (wtF L C p q true) i a1, s'), ⟨rfl, f1⟩, ?_⟩
    simp only [p12_rests_L38, lt2_y hi, if_true]
    exact e1
  · obtain ⟨a1, sa⟩ := a
    obtain ⟨hx, hf⟩ := hR
    have hx : a1 = x := hx
    subst hx
    refine ⟨sa, ?_, hf⟩
    simp only [p12_rests_L38, lt2_n, if_false]
theorem op_rests {x1 x2 : Int32} : Op g H_rests (fun M => p11_rests (ob g 0) x1 x2 M) (fun M => p12_rests (ob g 287) x1 x2 M) := by
  refine opT (x := x1) (y := x2) (by decide) (by decide) (fun s l r e h => ?_) (fun s s1 l r h => ⟨0, ?_⟩) (fun s l r C G L i j hc hr hi hj hn ex ey h h2 => ?_)
  · simp only [p11_rests, a_gd, h, xb]
  · simp only [p12_rests, w_gd, obs, h, one_z, if_false, p12_rests_J31, p12_rests_J127, p12_rests_J106, p12_rests_J105, p12_rests_J135, p12_rests_J24, p12_rests]
  · subst ex ey
    have hC := hc.1.2.2.2.2.1
    have r0 : 0 < (C.1 4).toInt := by have := vc_r hC; omega
    rcases Bool.eq_false_or_eq_true (gv C i j) with hg | hg
    · right
      obtain ⟨s1, e1, f1⟩ := c_wt (g := g) (l := l) (r := r) (y := false) hc.1.1 hc.2.1 hc.2.2.2 r0 hi hj
      have e1 : p4_weight (ob g 30) (ob g 2) (Int32.ofNat i) (Int32.ofNat j) 0 (mm g s l r) = some (wtF L C i j false, mm g s1 l r) := e1
      have I1 := hc.1.1.frW f1
      obtain ⟨s2, e2, f2⟩ := c_wt (g := g) (l := l) (r := r) (y := true) I1 (hc.2.1.frW f1) hc.2.2.2 r0 hi hj
      have e2 : p4_weight (ob g 30) (ob g 2) (Int32.ofNat i) (Int32.ofNat j) 1 (mm g s1 l r) = some (wtF L C i j true, mm g s2 l r) := e2
      have I2 := I1.frW f2
      refine ⟨rsR (C.2 i 6 / 10) (wtF L C i j false) (wtF L C i j true), s2, ?_, rs_inW (f1.trans f2), fun l1 hc1 hn => ?_⟩
      · simp only [p11_rests, a_gd, h, xb, a_R3, a_R5, a_R17, obs, c_gov hc.1.1 hi hj, hg, ib_t, a_hold_t, e1, e2, c_at I2 hi, c_p I2 hi (show 6 < 9 by decide), divI_ne ten_nz, c_rests, xr, Option.map_some]
      · have hM := m287 hc1.1.2.2.1 (v := 0)
        obtain ⟨s3, e3, f3⟩ := m_rests (g := g) (l := l1) (r := r) hM (l287 hc1.2.2.1) hc1.2.2.2 r0 hi hj
        refine ⟨s3, ?_, rs_thr.trans (rs_295 f3), by rw [f3 287 (by decide), up2_eq]⟩
        simp only [p12_rests, w_gd, obs, hn, if_true, m_gov hM hj, hg, ib_t, one_z, if_false, p12_rests_J24, m_th0, e3]
    · left
      refine ⟨1, ?_, by decide, 0, up2 (up2 s 287 0 0) 287 0 3, ?_, rs_thr2, up2_eq⟩
      · simp only [p11_rests, a_gd, h, xb, a_R3, obs, c_gov hc.1.1 hi hj, hg, ib_f, a_hold_f]
      · have hM := m287 hc.1.2.2.1 (v := 0)
        simp only [p12_rests, w_gd, obs, h2 s l hc, if_true, m_gov hM hj, hg, ib_f, p12_rests_J24, m_th1, one_z, if_false, p12_rests_J31]
/-! MILD -/
theorem rs_same {a : tS} (h1 : a 288 = s 288) (h2 : Fw pL (cpS (up2 s 287 0 0) 291 0 288 0 445) a) : RS s a ∧ a 287 0 = 0 := by
  have e0 : ∀ o, o ≠ 288 → o ≠ 295 → o ≠ 291 → a o = up2 s 287 0 0 o := fun o x y z => by rw [h2.1 o x y, cpS_ne z]
  have e1 : ∀ o, o ≠ 288 → o ≠ 295 → o ≠ 291 → o ≠ 287 → a o = s o := fun o x y z w => by rw [e0 o x y z]; exact funext fun j => up2_ne (by omega)
  refine ⟨⟨fun o k ho => ?_, fun z => z.rs (e1 _ (by omega) (by omega) (by omega) (by omega)), fun z => z.rs (e1 _ (by omega) (by omega) (by omega) (by omega)), fun z => z.rs (e1 _ (by omega) (by omega) (by omega) (by omega))⟩, ?_⟩
  · by_cases c : o = 288
    · rw [c, h1]
    · rw [e0 o c (by unfold scr at ho; omega) (by unfold scr at ho; omega), up2_ne (by unfold scr at ho; omega)]
  · rw [e0 287 (by decide) (by decide) (by decide), up2_eq]
theorem up287 : up2 s 287 0 0 288 = s 288 := funext fun j => up2_ne (by omega)
theorem brg {s1 : tS} (hf : Fw pL (cpS (up2 s 287 0 0) 291 0 288 0 445) s1) : cpS s1 288 0 291 0 445 288 = s 288 ∧ Fw pL (cpS (up2 s 287 0 0) 291 0 288 0 445) (cpS s1 288 0 291 0 445) := by
  have e : cpS s1 288 0 291 0 445 288 = s 288 := funext fun k => (back_same hf k).trans (congrFun up287 k)
  refine ⟨e, fun o x y => by rw [cpS_ne x, hf.1 o x y], fun k _ => ?_⟩
  rw [e, cpS_ne (by decide), up287]
theorem c_setStep {s1 : tS} {n : Nat} {C1 : Co} {G1 : Lg} {v : Int32} (h : CS s 81 L n s1 C1 G1) (hv : bw 0 20 v) : CS s 81 L n (up2 s1 81 7 v) (stG C1 6 v) G1 := by
  obtain ⟨h1, h2, h3, h4, h5, h6⟩ := h
  have f : Fr (fun o => o = 81) s1 (up2 s1 81 7 v) := Fr.up rfl
  exact ⟨h1.setG (k := 7) (by decide) (by decide), h2.fr f (by decide) (by decide), h3.fr f (fun o ho => by omega), h4.setG (by decide) (by omega) (by omega) (by decide) (by omega) (fun _ => hv), by rw [sz_G (by decide)]; exact h5, h6.trans (f.mono (fun o ho => by unfold inF; omega))⟩
theorem c_setSeed {s1 : tS} {n : Nat} {C1 : Co} {G1 : Lg} {v : Int32} (h : CS s 81 L n s1 C1 G1) : CS s 81 L n (up2 s1 81 9 v) (stG C1 8 v) G1 := by
  obtain ⟨h1, h2, h3, h4, h5, h6⟩ := h
  have f : Fr (fun o => o = 81) s1 (up2 s1 81 9 v) := Fr.up rfl
  exact ⟨h1.setG (k := 9) (by decide) (by decide), h2.fr f (by decide) (by decide), h3.fr f (fun o ho => by omega), h4.setG (by decide) (by omega) (by omega) (by decide) (by omega) (by omega), by rw [sz_G (by decide)]; exact h5, h6.trans (f.mono (fun o ho => by unfold inF; omega))⟩
def miF (L : Lw) (_ : Nat) (C : Co) : Co ⊕ Bool := if sp_cr (aheadF L false C) = 0 then .inl (aheadF L false C) else .inr false
def miR (L : Lw) (k : Nat) (C : Co) : Bool := lpx (miF L) (fun _ => true) k 0 C
theorem ltk {i k : Nat} (hk : k < 2147483648) (h : i < k) : (Int32.ofNat i < Int32.ofNat k) = True := eq_true ((i_lt (by omega) hk).mpr h)
theorem ltk_n {k : Nat} : (Int32.ofNat k < Int32.ofNat k) = False := eq_false Int32.lt_irrefl
theorem c_isMild {k st : Nat} (hk : k ≤ 60) (hst : st ≤ 20) (hc : Core s C G L) (hr : Rest s) : ∃ s1, p1_isMild (ob g 80) (Int32.ofNat st) (Int32.ofNat k) (mm g s l r) = some (ib (miR L k (stG C 6 (Int32.ofNat st))), mm g s1 l r) ∧ RS s s1 := by
  obtain ⟨s1, e1, t1, -⟩ := c_trial (g := g) (l := l) (r := r) hc hr
  have t2 := c_setStep t1 (v := Int32.ofNat st) (by unfold bw; rw [i_toInt (by omega)]; omega)
  have h1 := it_sx (L := fun n' (a : tS) j => p1_isMild_L21 n' (ob g 80) (Int32.ofNat k) j (mm g a l r)) (R := fun _ a x => ∃ G1, CS s 81 L (sz C) a x G1) (Q := fun B t => ∃ s2, B = some (ib t, mm g s2 l r) ∧ RS s s2) (f := miF L) (K := fun _ => true) (N := k) (fun n j a x hj hR => by
    obtain ⟨G1, h1⟩ := hR
    obtain ⟨s2, G2, e2, h2⟩ := cs_ahead (g := g) (l := l) (r := r) (y := false) hc.2.2.2 h1
    have e2 : p1_passAhead (ob g 80) (ob g 81) 0 (mm g a l r) = some (mm g s2 l r) := e2
    by_cases h0 : sp_cr (aheadF L false x) = 0
    · refine Or.inl ⟨aheadF L false x, s2, by rw [miF, if_pos h0], ⟨G2, h2⟩, ?_⟩
      simp only [p1_isMild_L21, ltk (show k < 2147483648 by omega) hj, if_true, d_R2, obs, e2, tc_crib h2.1, h0, i_succ]
    · refine Or.inr ⟨false, by rw [miF, if_neg h0], s2, ?_, cs_rs h2⟩
      simp only [p1_isMild_L21, ltk (show k < 2147483648 by omega) hj, if_true, d_R2, obs, e2, tc_crib h2.1, h0, if_false, ib_f]) (fun n a x hR => by
    obtain ⟨G1, h1⟩ := hR
    refine ⟨a, ?_, cs_rs h1⟩
    simp only [p1_isMild_L21, ltk_n, if_false, ib_t]) k gF 0 (up2 s1 81 7 (Int32.ofNat st)) (stG C 6 (Int32.ofNat st)) (by omega) (gF_gt (by omega)) ⟨G, t2⟩
  obtain ⟨s2, e2, r2⟩ := h1
  refine ⟨s2, ?_, r2⟩
  simp only [p1_isMild, d_gd, d_R2, d_R0, obs, e1, c_G t1.1]
  exact e2
theorem d20 : ∀ i, i < 21 → ((20 : Int32) - Int32.ofNat i = Int32.ofNat (20 - i) ∧ ¬ (20 : Int32) - Int32.ofNat i < 0) ∧ (20 : Int32) - Int32.ofNat i + (-1) = 20 - Int32.ofNat (i + 1) := by decide
def mdF (L : Lw) (C : Co) (k i : Nat) (_ : Unit) : Unit ⊕ Option Nat := if miR L k (stG C 6 (Int32.ofNat (20 - i))) = true then .inr (some (20 - i)) else .inl ()
def mdR (L : Lw) (C : Co) (k : Nat) : Option Nat := lpx (mdF L C k) (fun _ => none) 21 0 ()
theorem c_mild {k : Nat} (hk : k ≤ 60) (hc : Core s C G L) (hr : Rest s) : ∃ s1, p1_mildest (ob g 80) (Int32.ofNat k) (mm g s l r) = some (encB (mdR L C k), mm g s1 l r) ∧ RS s s1 := by
  have h1 := it_sx (L := fun n' (a : tS) j => p1_mildest_L3 n' (ob g 80) (Int32.ofNat k) (20 - j) (mm g a l r)) (R := fun _ a _ => RS s a) (Q := fun B t => ∃ s2, B = some (encB t, mm g s2 l r) ∧ RS s s2) (f := mdF L C k) (K := fun _ => none) (N := 21) (fun n j a x hj hR => by
    obtain ⟨⟨d1, d2⟩, d3⟩ := d20 j hj
    obtain ⟨s2, e2, r2⟩ := c_isMild (g := g) (l := l) (r := r) (st := 20 - j) hk (by omega) (hc.rs hR) (hr.rs hR)
    rcases Bool.eq_false_or_eq_true (miR L k (stG C 6 (Int32.ofNat (20 - j)))) with e | e
    · refine Or.inr ⟨some (20 - j), by rw [mdF, if_pos e], s2, ?_, hR.trans r2⟩
      show p1_mildest_L3 (n + 1) (ob g 80) (Int32.ofNat k) (20 - Int32.ofNat j) (mm g a l r) = _
      rw [d1] at d2 ⊢
      simp only [p1_mildest_L3, d2, if_false, e2, obs, e, ib_t, one_z, encB]
    · refine Or.inl ⟨(), s2, by rw [mdF, if_neg (by rw [e]; decide)], hR.trans r2, ?_⟩
      show p1_mildest_L3 (n + 1) (ob g 80) (Int32.ofNat k) (20 - Int32.ofNat j) (mm g a l r) = p1_mildest_L3 n (ob g 80) (Int32.ofNat k) (20 - Int32.ofNat (j + 1)) (mm g s2 l r)
      rw [← d3]
      rw [d1] at d2 ⊢
      simp only [p1_mildest_L3, d2, if_false, e2, obs, e, ib_f, if_true]) (fun n a x hR => by
    refine ⟨a, ?_, hR⟩
    show p1_mildest_L3 (n + 1) (ob g 80) (Int32.ofNat k) (20 - Int32.ofNat 21) (mm g a l r) = _
    have z : (20 : Int32) - Int32.ofNat 21 < 0 := by decide
    simp only [p1_mildest_L3, z, if_true, encB]) 21 gF 0 s () (by omega) (gF_gt (by omega)) RS.refl
  obtain ⟨s2, e2, r2⟩ := h1
  refine ⟨s2, ?_, r2⟩
  rw [p1_mildest, d_gd]
  exact e2
theorem m_setStep {s0 s1 : tS} {n : Nat} {C1 : Co} {v : Int32} (hV : VL L) (h : MS s0 pL L n s1 C1) (hv : bw 0 20 v) : MS s0 pL L n (up2 s1 288 6 v) (stG C1 6 v) := by
  obtain ⟨h1, h2, h3, h4, h5⟩ := h
  have f : Fw pL s1 (up2 s1 288 6 v) := Fw.up (by unfold pL; omega)
  exact ⟨h1.setG (by decide) (by decide) (by decide), h2.fm hV f, h3.setG (by decide) (by omega) (by omega) (by decide) (by omega) (fun _ => hv), by rw [sz_G (by decide)]; exact h4, h5.trans f⟩
theorem ms_aheadL {s0 s1 : tS} {n : Nat} {C1 : Co} {y : Bool} (hV : VL L) (h : MS s0 pL L n s1 C1) : ∃ s2, p12_dayOf (ob g 287) (ib y) (mm g s1 l r) = some (mm g s2 l r) ∧ MS s0 pL L n s2 (aheadF L y C1) := by
  obtain ⟨h1, h2, h3, h4, h5⟩ := h
  obtain ⟨s2, e2, M2, f2⟩ := m_ahead (g := g) (l := l) (r := r) (y := y) hV h1 h2 h3
  have f2' : Fw pL s1 s2 := f2.mono (fun i hi => pCL hi)
  obtain ⟨k1, k2⟩ := aheadF_ok (y := y) hV h3
  exact ⟨s2, e2, M2, h2.fm hV f2', k1, k2.trans h4, h5.trans f2'⟩
/-- in between: the world is as it was -/
def atS (s a : tS) : Prop := a 288 = s 288 ∧ Fw pL (cpS (up2 s 287 0 0) 291 0 288 0 445) a
theorem atS_0 : atS s (cpS (up2 s 287 0 0) 291 0 288 0 445) := ⟨by rw [cpS_ne (by decide), up287], Fw.refl⟩
theorem atS_M {a : tS} (h : atS s a) (hc : Core s C G L) : MS (cpS (up2 s 287 0 0) 291 0 288 0 445) pL L (sz C) a C := by
  obtain ⟨h1, h2⟩ := h
  refine ⟨?_, ?_, hc.1.2.2.2.2.1, rfl, h2⟩
  · show Mw (a 288) C
    rw [h1]
    exact hc.1.2.2.1
  · show LMw (a 288) L
    rw [h1]
    exact hc.2.2.1
theorem m_mildDay {k n st : Nat} (hk : k ≤ 60) (hV : VL L) {a : tS} {C1 : Co} (h : MS (cpS (up2 s 287 0 0) 291 0 288 0 445) pL L (sz C) a C1) : ∃ s3, p12_mild_L62 (p12_mild_J98 (p12_mild_L39 n)) gF (ob g 287) (Int32.ofNat k) (Int32.ofNat st) 1 0 (mm g a l r) = p12_mild_J98 (p12_mild_L39 n) (ob g 287) (Int32.ofNat k) (Int32.ofNat st) (ib (miR L k C1)) (mm g s3 l r) ∧ Fw pL (cpS (up2 s 287 0 0) 291 0 288 0 445) s3 := by
  refine it_sx (L := fun n' (a : tS) j => p12_mild_L62 (p12_mild_J98 (p12_mild_L39 n)) (n' + 1) (ob g 287) (Int32.ofNat k) (Int32.ofNat st) 1 j (mm g a l r)) (R := fun _ a x => MS (cpS (up2 s 287 0 0) 291 0 288 0 445) pL L (sz C) a x) (Q := fun B t => ∃ s3, B = p12_mild_J98 (p12_mild_L39 n) (ob g 287) (Int32.ofNat k) (Int32.ofNat st) (ib t) (mm g s3 l r) ∧ Fw pL (cpS (up2 s 287 0 0) 291 0 288 0 445) s3) (f := miF L) (K := fun _ => true) (N := k) (fun m j a x hj hR => ?_) (fun m a x hR => ?_) k (gF - 1) 0 a C1 (by omega) (show k < 4294967296 - 1 by omega) h
  · obtain ⟨s2, e2, h2⟩ := ms_aheadL (g := g) (l := l) (r := r) (y := false) hV hR
    have e2 : p12_dayOf (ob g 287) 0 (mm g a l r) = some (mm g s2 l r) := e2
    by_cases h0 : sp_cr (aheadF L false x) = 0
    · refine Or.inl ⟨aheadF L false x, s2, by rw [miF, if_pos h0], h2, ?_⟩
      rw [p12_mild_L62]
      simp only [ltk (show k < 2147483648 by omega) hj, if_true, one_z, if_false, obs, e2, tm_crib h2.1, h0, p12_mild_J90, i_succ]
    · refine Or.inr ⟨false, by rw [miF, if_neg h0], s2, ?_, h2.2.2.2.2⟩
      have fin : p12_mild_L62 (p12_mild_J98 (p12_mild_L39 n)) (m + 1) (ob g 287) (Int32.ofNat k) (Int32.ofNat st) 0 (Int32.ofNat j + 1) (mm g s2 l r) = p12_mild_J98 (p12_mild_L39 n) (ob g 287) (Int32.ofNat k) (Int32.ofNat st) 0 (mm g s2 l r) := by
        by_cases c : Int32.ofNat j + 1 < Int32.ofNat k
        · simp only [p12_mild_L62, c, if_true]
        · simp only [p12_mild_L62, c, if_false]
      rw [p12_mild_L62]
      simp only [ltk (show k < 2147483648 by omega) hj, if_true, one_z, if_false, obs, e2, tm_crib h2.1, h0, p12_mild_J90, ib_f]
      exact fin
  · refine ⟨a, ?_, hR.2.2.2.2⟩
    simp only [p12_mild_L62, ltk_n, if_false, ib_t]
theorem m_mild {k : Nat} (hk : k ≤ 60) (hc : Core s C G L) : ∃ s3, p12_mild_L39 gF (ob g 287) (Int32.ofNat k) (-1) 20 (mm g (cpS (up2 s 287 0 0) 291 0 288 0 445) l r) = some (encB (mdR L C k), mm g s3 l r) ∧ atS s s3 := by
  have hV : VL L := hc.2.2.2
  refine it_sx (L := fun n' (a : tS) j => p12_mild_L39 (n' + 1) (ob g 287) (Int32.ofNat k) (-1) (20 - j) (mm g a l r)) (R := fun _ a _ => atS s a) (Q := fun B t => ∃ s3, B = some (encB t, mm g s3 l r) ∧ atS s s3) (f := mdF L C k) (K := fun _ => none) (N := 21) (fun n j a x hj hR => ?_) (fun n a x hR => ?_) 21 (gF - 1) 0 (cpS (up2 s 287 0 0) 291 0 288 0 445) () (by omega) (by decide) atS_0
  · obtain ⟨⟨d1, d2⟩, d3⟩ := d20 j hj
    have M1 := m_setStep (v := Int32.ofNat (20 - j)) hV (atS_M hR hc) (by unfold bw; rw [i_toInt (by omega)]; omega)
    obtain ⟨s3, e3, f3⟩ := m_mildDay (g := g) (l := l) (r := r) (n := n + 1) (st := 20 - j) hk hV M1
    have B3 := brg f3
    have w6 : astI (mm g a l r) (ob g 288) 6 (Int32.ofNat (20 - j)) = some (mm g (up2 a 288 6 (Int32.ofNat (20 - j))) l r) := w_ast (k := 6) (by decide)
    rcases Bool.eq_false_or_eq_true (miR L k (stG C 6 (Int32.ofNat (20 - j)))) with e | e
    · refine Or.inr ⟨some (20 - j), by rw [mdF, if_pos e], cpS s3 288 0 291 0 445, ?_, B3⟩
      show p12_mild_L39 (n + 1 + 1) (ob g 287) (Int32.ofNat k) (-1) (20 - Int32.ofNat j) (mm g a l r) = _
      have fin : p12_mild_L39 (n + 1) (ob g 287) (Int32.ofNat k) (Int32.ofNat (20 - j)) (Int32.ofNat (20 - j) + (-1)) (mm g (cpS s3 288 0 291 0 445) l r) = some (Int32.ofNat (20 - j), mm g (cpS s3 288 0 291 0 445) l r) := by
        by_cases c2 : Int32.ofNat (20 - j) + (-1) < 0
        · simp only [p12_mild_L39, c2, if_true, p12_mild_J119]
        · simp only [p12_mild_L39, c2, if_false, nmN (show 20 - j < 2147483648 by omega), p12_mild_J119]
      rw [d1] at d2 ⊢
      rw [p12_mild_L39]
      simp only [d2, if_false, if_true, w_R1, w6, obs, e3, e, ib_t, p12_mild_J98, m_brings, one_z, p12_mild_J112, encB]
      exact fin
    · refine Or.inl ⟨(), cpS s3 288 0 291 0 445, by rw [mdF, if_neg (by rw [e]; decide)], B3, ?_⟩
      show p12_mild_L39 (n + 1 + 1) (ob g 287) (Int32.ofNat k) (-1) (20 - Int32.ofNat j) (mm g a l r) = p12_mild_L39 (n + 1) (ob g 287) (Int32.ofNat k) (-1) (20 - Int32.ofNat (j + 1)) (mm g (cpS s3 288 0 291 0 445) l r)
      rw [← d3]
      rw [d1] at d2 ⊢
      rw [p12_mild_L39]
      simp only [d2, if_false, if_true, w_R1, w6, obs, e3, e, ib_f, p12_mild_J98, m_brings, p12_mild_J112]
  · refine ⟨a, ?_, hR⟩
    show p12_mild_L39 (n + 1 + 1) (ob g 287) (Int32.ofNat k) (-1) (20 - Int32.ofNat 21) (mm g a l r) = _
    have z : (20 : Int32) - Int32.ofNat 21 < 0 := by decide
    simp only [p12_mild_L39, z, if_true, p12_mild_J119, encB]
theorem op_mild {x1 : Int32} : Op g H_mild (fun M => p11_mild (ob g 0) x1 M) (fun M => p12_mild (ob g 287) x1 M) := by
  intro s l r hI
  obtain ⟨C, G, L, n, p, hc, ht, hp, hk, hr⟩ := id hI
  rcases Bool.eq_false_or_eq_true (inL 0 60 x1) with hx | hx
  · obtain ⟨k, hk, rfl⟩ := inL_nat (n := 60) (by omega) hx
    obtain ⟨s2, e2, r2⟩ := c_mild (g := g) (l := l) (r := r) hk hc hr
    refine Or.inr ⟨encB (mdR L C k), s2, r, ?_, fun l1 => ?_⟩
    · simp only [p11_mild, a_gd, a_lie_t hx, xb, a_R14, obs, e2, xr, Option.map_some]
    · obtain ⟨s3, e3, r3⟩ := m_mild (g := g) (l := l1) (r := r) hk (hc.rs r2)
      obtain ⟨q1, q2⟩ := rs_same r3.1 r3.2
      refine ⟨s3, ?_, q2, (hI.rs r2).rs q1⟩
      simp only [p12_mild, w_gd, w_putI, obs, m_in, hx, ib_t, one_z, if_false, p12_mild_J21, m_th0, if_true, m_keeps]
      exact e3
  · refine Or.inl ⟨0, s, r, up2 (up2 s 287 0 0) 287 0 1, 0, ?_, by decide, ?_, up2_eq, hI.rs rs_thr2⟩
    · simp only [p11_mild, a_gd, a_lie_f hx, xb]
    · simp only [p12_mild, w_gd, w_putI, obs, m_in, hx, ib_f, if_true, p12_mild_J21, m_th1, one_z, if_false]
/-! SPAN -/
theorem ages_b (hC : VC C) : 0 ≤ (sp_ages C).toInt := by
  have hr := vc_r hC
  have : ∀ k, k ≤ sz C → 0 ≤ (iter (fun i x => x + C.2 i 0) k (0 : Int32)).toInt ∧ (iter (fun i x => x + C.2 i 0) k (0 : Int32)).toInt ≤ 99 * k := by
    intro k
    induction k with
    | zero => exact fun _ => ⟨Int.le_refl _, Int.le_refl _⟩
    | succ k ih =>
      intro hk
      obtain ⟨h1, h2⟩ := ih (by omega)
      have ha := (hC.2.2.2.2.2.2 k (by omega)).1
      have := hC.1.2
      show 0 ≤ (iter (fun i x => x + C.2 i 0) k (0 : Int32) + C.2 k 0).toInt ∧ (iter (fun i x => x + C.2 i 0) k (0 : Int32) + C.2 k 0).toInt ≤ 99 * ((k + 1 : Nat) : Int)
      rw [i_tadd (by omega) (by omega)]
      omega
  exact (this _ (Nat.le_refl _)).1
def spG (L : Lw) (C : Co) (G : Lg) (k i : Nat) : Int32 := sp_ages (goF L k (stG C 8 (Int32.ofNat i), G)).2.1
def spO (y : Bool) (v : Int32) (x : Option Int32) : Option Int32 := match x with
  | none => some v
  | some w => some (if y = true then (if w < v then v else w) else (if v < w then v else w))
def nnO (x : Option Int32) : Prop := ∀ v, x = some v → 0 ≤ v.toInt
theorem nnO_s {y : Bool} {v : Int32} {x : Option Int32} (hv : 0 ≤ v.toInt) (h : nnO x) : nnO (spO y v x) := by
  intro w hw
  cases x with
  | none =>
    have := Option.some.inj hw
    rw [← this]
    exact hv
  | some u =>
    have e := Option.some.inj hw
    have hu := h u rfl
    rw [← e]
    cases y
    · simp only [Bool.false_eq_true, if_false]
      split
      · exact hv
      · exact hu
    · simp only [if_true]
      split
      · exact hv
      · exact hu
theorem nn_m1 {v : Int32} (h : 0 ≤ v.toInt) : (v = -1) = False := eq_false fun e => by
  rw [e] at h
  exact absurd h (by decide)
theorem nn_neg {v : Int32} (h : 0 ≤ v.toInt) : (v < 0) = False := eq_false fun e => by
  have := i_ltI.mp e
  have z : (0 : Int32).toInt = 0 := rfl
  omega
def snR (L : Lw) (C : Co) (G : Lg) (k : Nat) (y : Bool) : Int32 := gO (-1) (itF (fun i x => spO y (spG L C G k i) x) 6 1 none)
theorem lt6_y {i : Nat} (h : i < 7) : ((6 : Int32) < Int32.ofNat i) = False := eq_false (fun c => by
  have := (i_lt (a := 6) (b := i) (by decide) (by omega)).mp c
  omega)
theorem lt6_n : ((6 : Int32) < Int32.ofNat 7) = True := eq_true (by decide)
theorem c_span {k : Nat} {y : Bool} (hk : k ≤ 100) (hc : Core s C G L) (hr : Rest s) : ∃ s1, p1_spanned (ob g 80) (Int32.ofNat k) (ib y) (mm g s l r) = some (snR L C G k y, mm g s1 l r) ∧ RS s s1 := by
  have hV : VL L := hc.2.2.2
  have h1 := it_sf (L := fun n' (a : Int32 × tS) j => p1_spanned_L5 n' (ob g 80) (Int32.ofNat k) (ib y) a.1 j (mm g a.2 l r)) (R := fun _ a x => a.1 = gO (-1) x ∧ nnO x ∧ RS s a.2) (Q := fun B x => ∃ s2, B = some (gO (-1) x, mm g s2 l r) ∧ RS s s2) (f := fun i x => spO y (spG L C G k i) x) (N := 7) (fun n j a x hj hR => by
    obtain ⟨a1, sa⟩ := a
    obtain ⟨h1, h2, h3⟩ := hR
    have h1 : a1 = gO (-1) x := h1
    have h3 : RS s sa := h3
    subst h1
    have hca := hc.rs h3
    obtain ⟨s1, e1, t1, -⟩ := c_trial (g := g) (l := l) (r := r) hca (hr.rs h3)
    have t2 := c_setSeed t1 (v := Int32.ofNat j)
    obtain ⟨s2, e2, I2, g2, f2⟩ := c_pass (g := g) (l := l) (r := r) hV t2.1 t2.2.1 t2.2.2.1 t2.2.2.2.1 (n := k) (by omega)
    have r2 : RS sa s2 := RS.fam (Or.inl rfl) (t2.2.2.2.2.2.trans f2) I2.2.2.2.2.2.2
    have hv : 0 ≤ (spG L C G k j).toInt := ages_b (goF_ok (n := k) (x := (stG C 8 (Int32.ofNat j), G)) hV t2.2.2.2.1).1
    refine ⟨(gO (-1) (spO y (spG L C G k j) x), s2), ⟨rfl, nnO_s hv h2, h3.trans r2⟩, ?_⟩
    have ea : p2_agesTogether (ob g 81) (mm g s2 l r) = some (spG L C G k j) := tc_ages I2
    cases x with
    | none => simp only [p1_spanned_L5, lt6_y hj, if_false, d_R2, d_R0, obs, e1, c_G t1.1, e2, ea, gO, spO, if_true, p1_spanned_J78, p1_spanned_J75, p1_spanned, i_succ]
    | some w =>
      have hw := h2 w rfl
      cases y
      · by_cases c : spG L C G k j < w
        · simp only [p1_spanned_L5, lt6_y hj, if_false, d_R2, d_R0, obs, e1, c_G t1.1, e2, ea, gO, spO, nn_m1 hw, ib_f, if_true, c, p1_spanned_J78, p1_spanned_J75, p1_spanned, i_succ, Bool.false_eq_true]
        · simp only [p1_spanned_L5, lt6_y hj, if_false, d_R2, d_R0, obs, e1, c_G t1.1, e2, ea, gO, spO, nn_m1 hw, ib_f, if_true, c, p1_spanned_J78, p1_spanned_J75, p1_spanned, i_succ, Bool.false_eq_true]
      · by_cases c : w < spG L C G k j
        · simp only [p1_spanned_L5, lt6_y hj, if_false, d_R2, d_R0, obs, e1, c_G t1.1, e2, ea, gO, spO, nn_m1 hw, ib_t, one_z, if_true, c, p1_spanned_J78, p1_spanned_J75, p1_spanned, i_succ]
        · simp only [p1_spanned_L5, lt6_y hj, if_false, d_R2, d_R0, obs, e1, c_G t1.1, e2, ea, gO, spO, nn_m1 hw, ib_t, one_z, if_true, c, p1_spanned_J78, p1_spanned_J75, p1_spanned, i_succ]) (fun n a x hR => by
    obtain ⟨h1, h2, h3⟩ := hR
    refine ⟨a.2, ?_, h3⟩
    simp only [p1_spanned_L5, lt6_n, if_true, h1]) 6 gF 1 (-1, s) none (by omega) (gF_gt (by omega)) ⟨rfl, fun v hv => (by cases hv), RS.refl⟩
  obtain ⟨s2, e2, r2⟩ := h1
  refine ⟨s2, ?_, r2⟩
  rw [p1_spanned, d_gd]
  exact e2
theorem m_span {k : Nat} {y : Bool} (hk : k ≤ 100) (hc : Core s C G L) : ∃ s3, p12_span_L39 gF (ob g 287) (Int32.ofNat k) (ib y) (-1) 1 (mm g (cpS (up2 s 287 0 0) 291 0 288 0 445) l r) = some (snR L C G k y, mm g s3 l r) ∧ atS s s3 := by
  have hV : VL L := hc.2.2.2
  refine it_sf (L := fun n' (a : Int32 × tS) j => p12_span_L39 n' (ob g 287) (Int32.ofNat k) (ib y) a.1 j (mm g a.2 l r)) (R := fun _ a x => a.1 = gO (-1) x ∧ nnO x ∧ atS s a.2) (Q := fun B x => ∃ s2, B = some (gO (-1) x, mm g s2 l r) ∧ atS s s2) (f := fun i x => spO y (spG L C G k i) x) (N := 7) (fun n j a x hj hR => ?_) (fun n a x hR => ?_) 6 gF 1 (-1, cpS (up2 s 287 0 0) 291 0 288 0 445) none (by omega) (gF_gt (by omega)) ⟨rfl, fun v hv => (by cases hv), atS_0⟩
  · obtain ⟨a1, sa⟩ := a
    obtain ⟨h1, h2, h3⟩ := hR
    have h1 : a1 = gO (-1) x := h1
    have h3 : atS s sa := h3
    subst h1
    have M1 := atS_M h3 hc
    have w8 : astI (mm g sa l r) (ob g 288) 8 (Int32.ofNat j) = some (mm g (up2 sa 288 8 (Int32.ofNat j)) l r) := w_ast (k := 8) (by decide)
    have f1 : Fw pL sa (up2 sa 288 8 (Int32.ofNat j)) := Fw.up (by unfold pL; omega)
    have M2 : Ms (up2 sa 288 8 (Int32.ofNat j)) (stG C 8 (Int32.ofNat j)) := M1.1.setG (by decide) (by decide) (by decide)
    have C2 : VC (stG C 8 (Int32.ofNat j)) := hc.1.2.2.2.2.1.setG (by decide) (by omega) (by omega) (by decide) (by omega) (by omega)
    have g1 : LgM (sa 288) G := by
      rw [show sa 288 = s 288 from h3.1]
      exact hc.1.2.2.2.1
    obtain ⟨s3, e3, M3, g3, f3⟩ := m_pass (g := g) (l := l) (r := r) hV M2 (g1.fm (Fw.up (by unfold pC; omega))) (M1.2.1.fm hV f1) C2 (n := k) (by omega)
    have hv : 0 ≤ (spG L C G k j).toInt := ages_b (goF_ok (n := k) (x := (stG C 8 (Int32.ofNat j), G)) hV C2).1
    have B3 := brg ((h3.2.trans f1).trans f3)
    refine ⟨(gO (-1) (spO y (spG L C G k j) x), cpS s3 288 0 291 0 445), ⟨rfl, nnO_s hv h2, B3⟩, ?_⟩
    have ea : p12_agesOfAll (ob g 287) (mm g s3 l r) = some (spG L C G k j) := tm_ages M3
    have m1 : (-1 : Int32) < 0 := by decide
    cases x with
    | none => simp only [p12_span_L39, lt6_y hj, if_false, w_R1, obs, w8, e3, ea, m_brings, gO, spO, m1, if_true, p12_span_J99, p12_span_J21, p12_span, i_succ]
    | some w =>
      have hw := h2 w rfl
      cases y
      · simp only [p12_span_L39, lt6_y hj, if_false, w_R1, obs, w8, e3, ea, m_brings, gO, spO, nn_neg hw, ib_f, if_true, p12_span_J99, p12_span_J21, p12_span, i_succ, Bool.false_eq_true, minI]
        rfl
      · simp only [p12_span_L39, lt6_y hj, if_false, w_R1, obs, w8, e3, ea, m_brings, gO, spO, nn_neg hw, ib_t, one_z, if_true, p12_span_J99, p12_span_J21, p12_span, i_succ, maxI]
        rfl
  · obtain ⟨h1, h2, h3⟩ := hR
    refine ⟨a.2, ?_, h3⟩
    simp only [p12_span_L39, lt6_n, if_true, h1]
theorem op_span {x1 : Int32} {x2 : Bool} : Op g H_span (fun M => p11_span (ob g 0) x1 (ib x2) M) (fun M => p12_span (ob g 287) x1 (ib x2) M) := by
  intro s l r hI
  obtain ⟨C, G, L, n, p, hc, ht, hp, hk, hr⟩ := id hI
  rcases Bool.eq_false_or_eq_true (inL 0 100 x1) with hx | hx
  · obtain ⟨k, hk, rfl⟩ := inL_nat (n := 100) (by omega) hx
    obtain ⟨s2, e2, r2⟩ := c_span (g := g) (l := l) (r := r) (y := x2) hk hc hr
    refine Or.inr ⟨snR L C G k x2, s2, r, ?_, fun l1 => ?_⟩
    · simp only [p11_span, a_gd, a_lie_t hx, xb, a_R14, obs, e2, xr, Option.map_some]
    · obtain ⟨s3, e3, r3⟩ := m_span (g := g) (l := l1) (r := r) (y := x2) hk (hc.rs r2)
      obtain ⟨q1, q2⟩ := rs_same r3.1 r3.2
      refine ⟨s3, ?_, q2, (hI.rs r2).rs q1⟩
      simp only [p12_span, w_gd, w_putI, obs, m_in, hx, ib_t, one_z, if_false, p12_span_J21, m_th0, if_true, m_keeps]
      exact e3
  · refine Or.inl ⟨0, s, r, up2 (up2 s 287 0 0) 287 0 1, 0, ?_, by decide, ?_, up2_eq, hI.rs rs_thr2⟩
    · simp only [p11_span, a_gd, a_lie_f hx, xb]
    · simp only [p12_span, w_gd, w_putI, obs, m_in, hx, ib_f, if_true, p12_span_J21, m_th1, one_z, if_false]
end
