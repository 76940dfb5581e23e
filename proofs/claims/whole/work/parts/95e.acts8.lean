theorem k95 : lK 95 = 1 := by decide +kernel
theorem g_set : ∀ m, m < 256 → ∀ i, i < 8 → (Int32.ofNat m &&& (bt i ^^^ -1)) ||| bt i = Int32.ofNat (m ||| 2 ^ i) := by decide +kernel
theorem g_clr : ∀ m, m < 256 → ∀ i, i < 8 → Int32.ofNat m &&& (bt i ^^^ -1) = Int32.ofNat (if m.testBit i = true then m - 2 ^ i else m) := by decide +kernel
section
variable {g : Nat} {s s' : tS} {l : tL} {r : Nat → Nat} {C : Co} {G : Lg} {L : Lw}
theorem e_gd {β : Type} {T : Option β} : gd (mm g s l r) (ob g 95) 1 T = T := mm_gd k95
theorem e_R0 : getR (mm g s l r) (ob g 95) 1 0 = some (ob g 2) := mm_getR k95 (by decide +kernel) (by decide)
theorem e_R1 : getR (mm g s l r) (ob g 95) 1 1 = some (ob g 30) := mm_getR k95 (by decide +kernel) (by decide)
theorem e_R2 : getR (mm g s l r) (ob g 95) 1 2 = some (ob g 96) := mm_getR k95 (by decide +kernel) (by decide)
theorem e_R3 : getR (mm g s l r) (ob g 95) 1 3 = some (ob g 110) := mm_getR k95 (by decide +kernel) (by decide)
theorem e_R4 : getR (mm g s l r) (ob g 95) 1 4 = some (ob g 111) := mm_getR k95 (by decide +kernel) (by decide)
theorem e_R5 : getR (mm g s l r) (ob g 95) 1 5 = some (ob g 112) := mm_getR k95 (by decide +kernel) (by decide)
theorem e_R6 : getR (mm g s l r) (ob g 95) 1 6 = some (ob g 113) := mm_getR k95 (by decide +kernel) (by decide)
/-! HARSH, KIND -/
def hvF (L : Lw) (C : Co) (q : Nat) (y : Bool) (i : Nat) (x : Option Nat) : Option Nat := if gv C i q = true then (match x with
  | none => some i
  | some j => if wtF L C j q y < wtF L C i q y then some i else some j) else x
def hvM (L : Lw) (C : Co) (q : Nat) (y : Bool) (x : Option Nat) : Int32 := match x with
  | none => -1
  | some j => wtF L C j q y
def hvR (L : Lw) (C : Co) (q : Nat) (y : Bool) : Int32 := encB (itF (hvF L C q y) (sz C) 0 none)
theorem tc_heavy {y : Bool} {q : Nat} (hc : Core s C G L) (hq : q < sz C) : ∃ s1, p0_heaviest (ob g 95) (Int32.ofNat q) (ib y) (mm g s l r) = some (hvR L C q y, mm g s1 l r) ∧ RS s s1 := by
  have hC := hc.1.2.2.2.2.1
  have := it_sf (L := fun n (a : Int32 × Int32 × tS) i => p0_heaviest_L8 n (ob g 95) (Int32.ofNat q) (ib y) a.1 a.2.1 i (mm g a.2.2 l r)) (R := fun i a x => a.1 = encB x ∧ a.2.1 = hvM L C q y x ∧ (∀ j, x = some j → j < sz C) ∧ Is a.2.2 2 C ∧ LIs a.2.2 30 L ∧ Fr inW s a.2.2) (f := hvF L C q y) (Q := fun B x => ∃ s1, B = some (encB x, mm g s1 l r) ∧ RS s s1) (N := sz C) (fun n i a x hi hR => by
      obtain ⟨h1, h2, h3, h4, h5, h6⟩ := hR
      obtain ⟨a1, a2, s1⟩ := a
      have h1 : a1 = encB x := h1
      have h2 : a2 = hvM L C q y x := h2
      have h4 : Is s1 2 C := h4
      have h5 : LIs s1 30 L := h5
      have h6 : Fr inW s s1 := h6
      subst h1 h2
      rcases Bool.eq_false_or_eq_true (gv C i q) with hg | hg
      · obtain ⟨s2, e2, f2⟩ := c_wt (g := g) (l := l) (r := r) (y := y) h4 h5 hc.2.2.2 (by have := vc_r hC; omega) hi hq
        have hw := wt_bw (p := i) (q := q) (y := y) hc.2.2.2 hC
        by_cases hlt : hvM L C q y x < wtF L C i q y
        · refine ⟨(Int32.ofNat i, wtF L C i q y, s2), ?_, ?_⟩
          · have ex : hvF L C q y i x = some i := by
              unfold hvF
              rw [if_pos hg]
              cases x with
              | none => rfl
              | some j => exact if_pos hlt
            rw [ex]
            exact ⟨rfl, rfl, fun j hj => by have := Option.some.inj hj; omega, h4.frW f2, h5.frW f2, h6.trans f2⟩
          · simp only [p0_heaviest_L8, e_R0, obs, c_n h4, zc_yes h4.2.1 hi, if_true, c_gov h4 hi hq, hg, ib_t, one_z, if_false, e_R1, e2, hlt, p0_heaviest_J64, p0_heaviest, i_succ]
        · refine ⟨(encB x, hvM L C q y x, s2), ?_, ?_⟩
          · have ex : hvF L C q y i x = x := by
              unfold hvF
              rw [if_pos hg]
              cases x with
              | none =>
                exfalso
                apply hlt
                have m1 : (-1 : Int32).toInt = -1 := rfl
                exact i_ltI.mpr (by show (-1 : Int32).toInt < _; omega)
              | some j => exact if_neg hlt
            rw [ex]
            exact ⟨rfl, rfl, h3, h4.frW f2, h5.frW f2, h6.trans f2⟩
          · simp only [p0_heaviest_L8, e_R0, obs, c_n h4, zc_yes h4.2.1 hi, if_true, c_gov h4 hi hq, hg, ib_t, one_z, if_false, e_R1, e2, hlt, p0_heaviest_J64, p0_heaviest, i_succ]
      · refine ⟨(encB x, hvM L C q y x, s1), ?_, ?_⟩
        · have ex : hvF L C q y i x = x := by
            unfold hvF
            rw [hg]
            rfl
          rw [ex]
          exact ⟨rfl, rfl, h3, h4, h5, h6⟩
        · simp only [p0_heaviest_L8, e_R0, obs, c_n h4, zc_yes h4.2.1 hi, if_true, c_gov h4 hi hq, hg, ib_f, p0_heaviest_J64, p0_heaviest, i_succ]) (fun n a x hR => by
      obtain ⟨h1, h2, h3, h4, h5, h6⟩ := hR
      refine ⟨a.2.2, ?_, rs_inW h6⟩
      simp only [p0_heaviest_L8, e_R0, obs, c_n h4, zc_no h4.2.1, if_false, h1]) (sz C) gF 0 (-1, -1, s) none (by omega) (sz_gF hc.1.1.2.1) ⟨rfl, rfl, fun j hj => (by cases hj), hc.1.1, hc.2.1, Fr.refl⟩
  obtain ⟨s1, e1, r1⟩ := this
  refine ⟨s1, ?_, r1⟩
  rw [p0_heaviest, e_gd]
  exact e1
theorem tm_heavy {y : Bool} {q : Nat} (hM : Ms s C) (hL : LMs s L) (hV : VL L) (hC : VC C) (hq : q < sz C) : ∃ s1, p12_heaviest (ob g 287) (Int32.ofNat q) (ib y) (mm g s l r) = some (hvR L C q y, mm g s1 l r) ∧ Fr (fun a => a = 295) s s1 := by
  have hr := vc_r hC
  have := it_sf (L := fun n (a : Int32 × tS) i => p12_heaviest_L5 n (ob g 287) (Int32.ofNat q) (ib y) a.1 i (mm g a.2 l r)) (R := fun i a x => a.1 = encB x ∧ (∀ j, x = some j → j < sz C) ∧ Fr (fun a => a = 295) s a.2) (f := hvF L C q y) (Q := fun B x => ∃ s1, B = some (encB x, mm g s1 l r) ∧ Fr (fun a => a = 295) s s1) (N := sz C) (fun n i a x hi hR => by
      obtain ⟨h1, h3, h6⟩ := hR
      obtain ⟨a1, s1⟩ := a
      have h1 : a1 = encB x := h1
      have h6 : Fr (fun a => a = 295) s s1 := h6
      subst h1
      have M1 := hM.f h6
      rcases Bool.eq_false_or_eq_true (gv C i q) with hg | hg
      · cases x with
        | none =>
          refine ⟨(Int32.ofNat i, s1), ?_, ?_⟩
          · have ex : hvF L C q y i none = some i := by unfold hvF; rw [if_pos hg]
            rw [ex]
            exact ⟨rfl, fun j hj => by have := Option.some.inj hj; omega, h6⟩
          · simp only [p12_heaviest_L5, m_people M1, obs, zc_yes M1.1 hi, if_true, m_gov M1 hq, hg, ib_t, one_z, if_false, encB, eq_self, p12_heaviest_J50, p12_heaviest_J47, p12_heaviest, i_succ]
        | some j =>
          have hj := h3 j rfl
          obtain ⟨s2, e2, f2⟩ := m_wt (g := g) (l := l) (r := r) (y := y) M1 (hL.f h6) hV (by omega) hi hq
          obtain ⟨s3, e3, f3⟩ := m_wt (g := g) (l := l) (r := r) (y := y) (M1.f f2) ((hL.f h6).f f2) hV (by omega) hj hq
          by_cases hlt : wtF L C j q y < wtF L C i q y
          · refine ⟨(Int32.ofNat i, s3), ?_, ?_⟩
            · have ex : hvF L C q y i (some j) = some i := by unfold hvF; rw [if_pos hg]; exact if_pos hlt
              rw [ex]
              exact ⟨rfl, fun j hj => by have := Option.some.inj hj; omega, (h6.trans f2).trans f3⟩
            · simp only [p12_heaviest_L5, m_people M1, obs, zc_yes M1.1 hi, if_true, m_gov M1 hq, hg, ib_t, one_z, if_false, encB, nm1 (zc_8 M1.1 hj), e2, e3, hlt, p12_heaviest_J50, p12_heaviest_J47, p12_heaviest, i_succ]
          · refine ⟨(Int32.ofNat j, s3), ?_, ?_⟩
            · have ex : hvF L C q y i (some j) = some j := by unfold hvF; rw [if_pos hg]; exact if_neg hlt
              rw [ex]
              exact ⟨rfl, h3, (h6.trans f2).trans f3⟩
            · simp only [p12_heaviest_L5, m_people M1, obs, zc_yes M1.1 hi, if_true, m_gov M1 hq, hg, ib_t, one_z, if_false, encB, nm1 (zc_8 M1.1 hj), e2, e3, hlt, p12_heaviest_J50, p12_heaviest_J47, p12_heaviest, i_succ]
      · refine ⟨(encB x, s1), ?_, ?_⟩
        · have ex : hvF L C q y i x = x := by unfold hvF; rw [hg]; rfl
          rw [ex]
          exact ⟨rfl, h3, h6⟩
        · simp only [p12_heaviest_L5, m_people M1, obs, zc_yes M1.1 hi, if_true, m_gov M1 hq, hg, ib_f, p12_heaviest_J50, p12_heaviest_J47, p12_heaviest, i_succ]) (fun n a x hR => by
      obtain ⟨h1, h3, h6⟩ := hR
      have M1 := hM.f h6
      refine ⟨a.2, ?_, h6⟩
      simp only [p12_heaviest_L5, m_people M1, obs, zc_no M1.1, if_false, h1]) (sz C) gF 0 (-1, s) none (by omega) (sz_gF hM.1) ⟨rfl, fun j hj => (by cases hj), Fr.refl⟩
  obtain ⟨s1, e1, r1⟩ := this
  refine ⟨s1, ?_, r1⟩
  rw [p12_heaviest, w_gd]
  exact e1
theorem op_harsh {x1 : Int32} : Op g H_harsh (fun M => p11_harsh (ob g 0) x1 M) (fun M => p12_harsh (ob g 287) x1 M) := by
  refine opP1 (x := x1) (by decide) (fun s l r h => ?_) (fun s l r h => ⟨0, ?_⟩) (fun s l r C G L i hc hr hi ex h => Or.inr ?_)
  · simp only [p11_harsh, a_gd, h, xb]
  · simp only [p12_harsh, w_gd, w_putI, obs, h, m_th1, one_z, if_false, p12_harsh_J28, p12_harsh]
  · subst ex
    obtain ⟨s1, e1, r1⟩ := tc_heavy (g := g) (l := l) (r := r) (y := false) hc hi
    have e1 : p0_heaviest (ob g 95) (Int32.ofNat i) 0 (mm g s l r) = some (hvR L C i false, mm g s1 l r) := e1
    refine ⟨hvR L C i false, s1, ?_, r1, fun l1 hc1 h2 => ?_⟩
    · simp only [p11_harsh, a_gd, h, xb, a_R15, obs, e1, xr, Option.map_some]
    · obtain ⟨s2, e2, f2⟩ := tm_heavy (g := g) (l := l1) (r := r) (y := false) (m287 hc1.1.2.2.1 (v := 0)) (l287 hc1.2.2.1) hc1.2.2.2 hc1.1.2.2.2.2.1 hi
      have e2 : p12_heaviest (ob g 287) (Int32.ofNat i) 0 (mm g (up2 s1 287 0 0) l1 r) = some (hvR L C i false, mm g s2 l1 r) := e2
      refine ⟨s2, ?_, rs_thr.trans (rs_295 f2), by rw [f2 287 (by decide), up2_eq]⟩
      simp only [p12_harsh, w_gd, w_putI, obs, h2, m_th0, if_true, e2, p12_harsh_J28, p12_harsh]
theorem op_kind {x1 : Int32} : Op g H_kind (fun M => p11_kind (ob g 0) x1 M) (fun M => p12_kind (ob g 287) x1 M) := by
  refine opP1 (x := x1) (by decide) (fun s l r h => ?_) (fun s l r h => ⟨0, ?_⟩) (fun s l r C G L i hc hr hi ex h => Or.inr ?_)
  · simp only [p11_kind, a_gd, h, xb]
  · simp only [p12_kind, w_gd, w_putI, obs, h, m_th1, one_z, if_false, p12_kind_J28, p12_kind]
  · subst ex
    obtain ⟨s1, e1, r1⟩ := tc_heavy (g := g) (l := l) (r := r) (y := true) hc hi
    have e1 : p0_heaviest (ob g 95) (Int32.ofNat i) 1 (mm g s l r) = some (hvR L C i true, mm g s1 l r) := e1
    refine ⟨hvR L C i true, s1, ?_, r1, fun l1 hc1 h2 => ?_⟩
    · simp only [p11_kind, a_gd, h, xb, a_R15, obs, e1, xr, Option.map_some]
    · obtain ⟨s2, e2, f2⟩ := tm_heavy (g := g) (l := l1) (r := r) (y := true) (m287 hc1.1.2.2.1 (v := 0)) (l287 hc1.2.2.1) hc1.2.2.2 hc1.1.2.2.2.2.1 hi
      have e2 : p12_heaviest (ob g 287) (Int32.ofNat i) 1 (mm g (up2 s1 287 0 0) l1 r) = some (hvR L C i true, mm g s2 l1 r) := e2
      refine ⟨s2, ?_, rs_thr.trans (rs_295 f2), by rw [f2 287 (by decide), up2_eq]⟩
      simp only [p12_kind, w_gd, w_putI, obs, h2, m_th0, if_true, e2, p12_kind_J28, p12_kind]
/-! MEAN -/
def sp_mean (C : Co) : Int32 := if sz C = 0 then 0 else sp_ages C / C.1 0
theorem op_mean : Dir1 g (fun M => p11_mean (ob g 0) M) (fun M => p12_mean (ob g 287) M) := dir1_of (sp := sp_mean) (fun s l r C h _ => by
  have hz := h.2.1
  have c0 : ((0 : Int32) < C.1 0) = (0 < sz C) := by rw [hz.1]; exact propext (i_lt (a := 0) (by omega) (by have := hz.2; omega))
  show p11_mean (ob g 0) (mm g s l r) = _
  by_cases e : sz C = 0
  · simp only [p11_mean, a_gd, a_R3, obs, c_n h, c0, e, Nat.lt_irrefl, if_false, p11_mean_J29, p11_mean, sp_mean, if_true]
  · have hd : C.1 0 ≠ 0 := fun e2 => by
      rw [hz.1] at e2
      exact e ((i_eq (b := 0) (by have := hz.2; omega) (by omega)).mp e2)
    simp only [p11_mean, a_gd, a_R3, obs, c_n h, c0, show 0 < sz C by omega, if_true, tc_ages h, divI_ne hd, p11_mean_J29, p11_mean, sp_mean, e, if_false]) (fun s l r C h _ => by
  have hM : Ms (up2 s 287 0 0) C := m287 h
  have hz := hM.1
  show p12_mean (ob g 287) (mm g s l r) = _
  by_cases e : sz C = 0
  · have e2 : C.1 0 = 0 := by rw [hz.1, e]; rfl
    simp only [p12_mean, w_gd, w_putI, obs, m_people hM, e2, if_true, p12_mean_J25, p12_mean, sp_mean, e]
  · have hd : C.1 0 ≠ 0 := fun e2 => by
      rw [hz.1] at e2
      exact e ((i_eq (b := 0) (by have := hz.2; omega) (by omega)).mp e2)
    simp only [p12_mean, w_gd, w_putI, obs, m_people hM, hd, if_false, tm_ages hM, divI_ne hd, p12_mean_J25, p12_mean, sp_mean, e])
end
