section
variable {g : Nat} {s : tS} {l : tL} {r : Nat → Nat} {C : Co} {G : Lg} {L : Lw}
/-! UNDER -/
def nxF (C : Co) (i : Nat) : Int32 := iter (fun j x => if gv C i j = true then x ||| bt j else x) (sz C) 0
def unF (C : Co) (x : Int32) : Int32 := iter (fun i x => if hasb x i = true then x ||| nxF C i else x) (sz C) x
def sp_under (C : Co) (p : Nat) : Int32 := iter (fun _ x => unF C x) 8 (nxF C p)
theorem lt8_y {i : Nat} (h : i < 8) : (Int32.ofNat i < 8) = True := eq_true ((i_lt (b := 8) (by omega) (by decide)).mpr h)
theorem lt8_n : ((Int32.ofNat 8 : Int32) < 8) = False := eq_false (by decide)
theorem c_next {p : Nat} (h : Is s 2 C) (hp : p < sz C) : p10_nextOf (ob g 118) (Int32.ofNat p) 0 (mm g s l r) = some (nxF C p) := by
  rw [p10_nextOf, y_gd]
  refine it_up (fun n a i => p10_nextOf_L5 (mm g s l r) n (ob g 118) (Int32.ofNat p) 0 a i) (sz C) _ some ?_ ?_ gF 0 (sz_gF h.2.1)
  · intro n i a hi
    simp only [p10_nextOf_L5, y_R0, obs, c_n h, zc_yes h.2.1 hi, if_true, c_gov h hp hi, ib_z, p10_nextOf_J50, p10_nextOf_J57, i_succ, bt]
    rcases Bool.eq_false_or_eq_true (gv C p i) with e | e <;> simp [e]
  · intro n a
    simp only [p10_nextOf_L5, y_R0, obs, c_n h, zc_no h.2.1, if_false]
theorem m_next {p : Nat} (h : Ms s C) (hp : p < sz C) : p12_governedBy (ob g 287) (Int32.ofNat p) (mm g s l r) = some (nxF C p) := by
  rw [p12_governedBy, w_gd]
  refine it_up (fun n a i => p12_governedBy_L4 (mm g s l r) n (ob g 287) (Int32.ofNat p) a i) (sz C) _ some ?_ ?_ gF 0 (sz_gF h.1)
  · intro n i a hi
    simp only [p12_governedBy_L4, obs, m_people h, zc_yes h.1 hi, if_true, m_gov h hi, ib_z, p12_governedBy_J29, i_succ, bt, or0]
    rcases Bool.eq_false_or_eq_true (gv C p i) with e | e <;> simp [e]
  · intro n a
    simp only [p12_governedBy_L4, obs, m_people h, zc_no h.1, if_false]
theorem c_under {p : Nat} (h : Is s 2 C) (hp : p < sz C) : p10_reached (ob g 118) (Int32.ofNat p) 0 (mm g s l r) = some (sp_under C p) := by
  simp only [p10_reached, y_gd, c_next h hp, obs]
  refine it_up (fun n a i => p10_reached_L10 (mm g s l r) n (ob g 118) 0 a i) 8 (fun _ x => unF C x) some ?_ ?_ gF (nxF C p) (gF_gt (by omega))
  · intro n i a hi
    simp only [p10_reached_L10, lt8_y hi, if_true]
    refine (it_up (fun m a' j => p10_reached_L20 (mm g s l r) (p10_reached_J58 (mm g s l r) (p10_reached_L10 (mm g s l r) n)) m (ob g 118) 0 a' (Int32.ofNat i) j) (sz C) (fun i x => if hasb x i = true then x ||| nxF C i else x) (fun a' => p10_reached_L10 (mm g s l r) n (ob g 118) 0 a' (Int32.ofNat (i + 1))) ?_ ?_ gF a (sz_gF h.2.1))
    · intro m j a' hj
      have eh : hasb a' j = true ↔ (((a' >>> (Int32.ofNat j &&& 31)) &&& 1) = 1) := by rw [hasb, decide_eq_true_eq]
      by_cases e : hasb a' j = true
      · simp only [p10_reached_L20, y_R0, obs, c_n h, zc_yes h.2.1 hj, if_true, eh.mp e, c_next h hj, p10_reached_J52, i_succ, e]
      · have e' : ¬ (((a' >>> (Int32.ofNat j &&& 31)) &&& 1) = 1) := fun c => e (eh.mpr c)
        simp only [p10_reached_L20, y_R0, obs, c_n h, zc_yes h.2.1 hj, if_true, e', if_false, p10_reached_J52, i_succ, e, Bool.false_eq_true]
    · intro m a'
      simp only [p10_reached_L20, y_R0, obs, c_n h, zc_no h.2.1, if_false, p10_reached_J58, i_succ]
  · intro n a
    simp only [p10_reached_L10, lt8_n, if_false]
theorem m_under {p : Nat} (h : Ms s C) : p12_under_L28 gF (ob g 287) (nxF C p) 0 (mm g s l r) = some (sp_under C p, mm g s l r) := by
  refine it_up (fun n a i => p12_under_L28 n (ob g 287) a i (mm g s l r)) 8 (fun _ x => unF C x) (fun a => some (a, mm g s l r)) ?_ ?_ gF (nxF C p) (gF_gt (by omega))
  · intro n i a hi
    simp only [p12_under_L28, lt8_y hi, if_true]
    refine (it_up (fun m a' j => p12_under_L37 (p12_under_J74 (p12_under_L28 n)) m (ob g 287) a' (Int32.ofNat i) j (mm g s l r)) (sz C) (fun i x => if hasb x i = true then x ||| nxF C i else x) (fun a' => p12_under_L28 n (ob g 287) a' (Int32.ofNat (i + 1)) (mm g s l r)) ?_ ?_ gF a (sz_gF h.1))
    · intro m j a' hj
      rcases Bool.eq_false_or_eq_true (hasb a' j) with e | e
      · simp only [p12_under_L37, obs, m_people h, zc_yes h.1 hj, if_true, m_has, e, ib_t, one_z, if_false, m_next h hj, p12_under_J66, i_succ]
      · simp only [p12_under_L37, obs, m_people h, zc_yes h.1 hj, if_true, m_has, e, ib_f, p12_under_J66, i_succ, or0, Bool.false_eq_true, if_false]
    · intro m a'
      simp only [p12_under_L37, obs, m_people h, zc_no h.1, if_false, p12_under_J74, i_succ]
  · intro n a
    simp only [p12_under_L28, lt8_n, if_false]
theorem op_under {x1 : Int32} : Op g H_under (fun M => (p11_under (ob g 0) x1 M).map (fun z => match z with | .inl e => .inl e | .inr v => .inr (v, M))) (fun M => p12_under (ob g 287) x1 M) := by
  refine opP1 (x := x1) (by decide) (fun s l r h => ?_) (fun s l r h => ⟨0, ?_⟩) (fun s l r C G L i hc hr hi ex h => Or.inr ⟨sp_under C i, s, ?_, RS.refl, fun l1 hc1 h2 => ⟨up2 s 287 0 0, ?_, rs_thr, up2_eq⟩⟩)
  · simp only [p11_under, a_gd, h, xb, Option.map_some]
  · simp only [p12_under, w_gd, w_putI, obs, h, m_th1, one_z, if_false]
  · subst ex
    simp only [p11_under, a_gd, h, xb, a_R17, obs, c_under hc.1.1 hi, xr, Option.map_some]
  · subst ex
    simp only [p12_under, w_gd, w_putI, obs, h2, m_th0, if_true, m_next (m287 hc1.1.2.2.1) hi, m_under (m287 hc1.1.2.2.1)]
/-! SENIOR -/
def bA (C : Co) (p : Nat) : Int32 := iter (fun j x => if itF (brF C p) (sz C) 0 (fun _ => false) j = true then x + C.2 j 0 else x + 0) (sz C) 0
theorem c_bA {p : Nat} (h : Is s 2 C) (hC : VC C) (hp : p < sz C) : ∃ v, p10_branchOf (ob g 118) (Int32.ofNat p) (mm g s l r) = some v ∧ p10_agesOf (ob g 118) v (mm g s l r) = some (bA C p) := by
  obtain ⟨m, ⟨e1, hm⟩, b1⟩ := c_branch (g := g) (l := l) (r := r) h hC hp
  refine ⟨_, e1, ?_⟩
  rw [p10_agesOf, y_gd]
  refine it_up (fun n a i => p10_agesOf_L4 (mm g s l r) n (ob g 118) (Int32.ofNat m) a i) (sz C) _ some ?_ ?_ gF 0 (sz_gF h.2.1)
  · intro n j a hj
    have tb := tst_bit (k := j) hm (zc_8 hC.1 hj) b1
    rcases Bool.eq_false_or_eq_true (itF (brF C p) (sz C) 0 (fun _ => false) j) with e | e
    · have tb' := tb.mpr e
      simp only [p10_agesOf_L4, y_R0, obs, c_n h, zc_yes h.2.1 hj, if_true, tb', c_at h hj, c_p h hj (show 0 < 9 by decide), p10_agesOf_J40, i_succ, e]
    · have tb' : ¬ _ := fun c => by
        have := tb.mp c
        rw [e] at this
        cases this
      simp only [p10_agesOf_L4, y_R0, obs, c_n h, zc_yes h.2.1 hj, if_true, tb', if_false, p10_agesOf_J40, i_succ, e, Bool.false_eq_true]
  · intro n a
    simp only [p10_agesOf_L4, y_R0, obs, c_n h, zc_no h.2.1, if_false]
theorem m_bA {p : Nat} (h : Ms s C) (hC : VC C) (hp : p < sz C) : ∃ v, p12_branchOf (ob g 287) (Int32.ofNat p) (mm g s l r) = some v ∧ p12_agesOf (ob g 287) v (mm g s l r) = some (bA C p) := by
  obtain ⟨m, ⟨e1, hm⟩, b1⟩ := m_branch (g := g) (l := l) (r := r) h hC hp
  refine ⟨_, e1, ?_⟩
  rw [p12_agesOf, w_gd]
  refine it_up (fun n a i => p12_agesOf_L4 (mm g s l r) n (ob g 287) (Int32.ofNat m) a i) (sz C) _ some ?_ ?_ gF 0 (sz_gF h.1)
  · intro n j a hj
    have tb := bits_tab m hm j (zc_8 hC.1 hj)
    rw [b1] at tb
    rcases Bool.eq_false_or_eq_true (itF (brF C p) (sz C) 0 (fun _ => false) j) with e | e
    · rw [e] at tb
      simp only [p12_agesOf_L4, obs, m_people h, zc_yes h.1 hj, if_true, m_has, tb, ib_t, one_z, if_false, m_of0 h hj, p12_agesOf_J31, i_succ, e]
    · rw [e] at tb
      simp only [p12_agesOf_L4, obs, m_people h, zc_yes h.1 hj, if_true, m_has, tb, ib_f, if_false, p12_agesOf_J31, i_succ, e, Bool.false_eq_true]
  · intro n a
    simp only [p12_agesOf_L4, obs, m_people h, zc_no h.1, if_false]
def snF (C : Co) (i : Nat) (x : Option Nat) : Option Nat := if C.2 i 3 = -1 then bestF (fun i j => decide (bA C i < bA C j)) i x else x
def sp_sen (C : Co) : Int32 := encB (itF (snF C) (sz C) 0 none)
theorem snF_lt {i N : Nat} {x : Option Nat} (hi : i < N) (h : ∀ j, x = some j → j < N) : ∀ j, snF C i x = some j → j < N := by
  intro j hj
  unfold snF at hj
  by_cases c : C.2 i 3 = -1
  · rw [if_pos c] at hj
    cases x with
    | none =>
      have := Option.some.inj hj
      omega
    | some k =>
      unfold bestF at hj
      by_cases d : decide (bA C i < bA C k) = true
      · have hj' : some i = some j := by rw [← hj]; simp only [d, if_true]
        have := Option.some.inj hj'
        omega
      · have hj' : some k = some j := by rw [← hj]; simp only [d, if_false, Bool.false_eq_true]
        exact h j hj'
  · rw [if_neg c] at hj
    exact h j hj
theorem c_senior (h : Is s 2 C) (hC : VC C) : p10_youngestBranch (ob g 118) (mm g s l r) = some (sp_sen C) := by
  rw [p10_youngestBranch, y_gd]
  refine it_sf (L := fun n (a : Int32 × Int32) i => p10_youngestBranch_L6 (mm g s l r) n (ob g 118) a.1 a.2 i) (R := fun i a x => a.1 = encB x ∧ (∀ j, x = some j → j < sz C) ∧ ∀ j, x = some j → a.2 = bA C j) (f := snF C) (Q := fun B x => B = some (encB x)) (N := sz C) (fun n i a x hi hR => ?_) (fun n a x hR => ?_) (sz C) gF 0 (-1, 0) none (by omega) (sz_gF h.2.1) ⟨rfl, fun j hj => (by cases hj), fun j hj => (by cases hj)⟩
  · obtain ⟨a1, a2⟩ := a
    obtain ⟨h1, h2, h3⟩ := hR
    have h1' : a1 = encB x := h1
    subst h1'
    have hl := snF_lt (C := C) hi h2
    obtain ⟨v, e1, e2⟩ := c_bA (g := g) (l := l) (r := r) h hC hi
    by_cases c : C.2 i 3 = -1
    · have es : snF C i x = bestF (fun i j => decide (bA C i < bA C j)) i x := by rw [snF, if_pos c]
      cases x with
      | none =>
        refine ⟨(Int32.ofNat i, bA C i), ⟨by rw [es]; rfl, hl, fun j hj => ?_⟩, ?_⟩
        · rw [es] at hj
          have := Option.some.inj hj
          rw [this]
        · simp only [p10_youngestBranch_L6, y_R0, obs, c_n h, zc_yes h.2.1 hi, if_true, c_at h hi, c_p h hi (show 3 < 9 by decide), c, e1, e2, encB, p10_youngestBranch_J54, p10_youngestBranch_J59, i_succ]
      | some k =>
        have hk := h2 k rfl
        have ha : a2 = bA C k := h3 k rfl
        subst ha
        have nk : (Int32.ofNat k = -1) = False := nm1 (zc_8 hC.1 hk)
        by_cases d : bA C i < bA C k
        · have ex : snF C i (some k) = some i := by
            rw [es]
            simp only [bestF, d, decide_true, if_true]
          refine ⟨(Int32.ofNat i, bA C i), ⟨by rw [ex]; rfl, hl, fun j hj => ?_⟩, ?_⟩
          · rw [ex] at hj
            have := Option.some.inj hj
            rw [this]
          · simp only [p10_youngestBranch_L6, y_R0, obs, c_n h, zc_yes h.2.1 hi, if_true, c_at h hi, c_p h hi (show 3 < 9 by decide), c, e1, e2, encB, nk, if_false, d, p10_youngestBranch_J54, p10_youngestBranch_J59, i_succ]
        · have ex : snF C i (some k) = some k := by
            rw [es]
            simp only [bestF, d, decide_false, if_false, Bool.false_eq_true]
          refine ⟨(Int32.ofNat k, bA C k), ⟨by rw [ex]; rfl, hl, fun j hj => ?_⟩, ?_⟩
          · rw [ex] at hj
            have := Option.some.inj hj
            rw [this]
          · simp only [p10_youngestBranch_L6, y_R0, obs, c_n h, zc_yes h.2.1 hi, if_true, c_at h hi, c_p h hi (show 3 < 9 by decide), c, e1, e2, encB, nk, if_false, d, p10_youngestBranch_J59, i_succ]
    · have es : snF C i x = x := by rw [snF, if_neg c]
      refine ⟨(encB x, a2), ⟨by rw [es], hl, by rw [es]; exact h3⟩, ?_⟩
      simp only [p10_youngestBranch_L6, y_R0, obs, c_n h, zc_yes h.2.1 hi, if_true, c_at h hi, c_p h hi (show 3 < 9 by decide), c, if_false, p10_youngestBranch_J59, i_succ]
  · obtain ⟨a1, a2⟩ := a
    obtain ⟨h1, h2, h3⟩ := hR
    have h1' : a1 = encB x := h1
    subst h1'
    simp only [p10_youngestBranch_L6, y_R0, obs, c_n h, zc_no h.2.1, if_false]
theorem m_senior (h : Ms s C) (hC : VC C) : p12_senior_L9 gF (ob g 287) (-1) 0 (mm g s l r) = some (sp_sen C, mm g s l r) := by
  refine it_sf (L := fun n (a : Int32) i => p12_senior_L9 n (ob g 287) a i (mm g s l r)) (R := fun i a x => a = encB x ∧ (∀ j, x = some j → j < sz C)) (f := snF C) (Q := fun B x => B = some (encB x, mm g s l r)) (N := sz C) (fun n i a x hi hR => ?_) (fun n a x hR => ?_) (sz C) gF 0 (-1) none (by omega) (sz_gF h.1) ⟨rfl, fun j hj => (by cases hj)⟩
  · obtain ⟨rfl, h2⟩ := hR
    have hl := snF_lt (C := C) hi h2
    obtain ⟨v, e1, e2⟩ := m_bA (g := g) (l := l) (r := r) h hC hi
    by_cases c : C.2 i 3 = -1
    · have es : snF C i x = bestF (fun i j => decide (bA C i < bA C j)) i x := by rw [snF, if_pos c]
      cases x with
      | none =>
        refine ⟨Int32.ofNat i, ⟨by rw [es]; rfl, hl⟩, ?_⟩
        simp only [p12_senior_L9, obs, m_people h, zc_yes h.1 hi, if_true, m_of3 h hi, c, encB, p12_senior_J53, p12_senior_J55, i_succ]
      | some k =>
        have hk := h2 k rfl
        have nk : (Int32.ofNat k = -1) = False := nm1 (zc_8 hC.1 hk)
        obtain ⟨v', f1, f2⟩ := m_bA (g := g) (l := l) (r := r) h hC hk
        by_cases d : bA C i < bA C k
        · have ex : snF C i (some k) = some i := by
            rw [es]
            simp only [bestF, d, decide_true, if_true]
          refine ⟨Int32.ofNat i, ⟨by rw [ex]; rfl, hl⟩, ?_⟩
          simp only [p12_senior_L9, obs, m_people h, zc_yes h.1 hi, if_true, m_of3 h hi, c, encB, nk, if_false, e1, e2, f1, f2, d, p12_senior_J53, p12_senior_J55, i_succ]
        · have ex : snF C i (some k) = some k := by
            rw [es]
            simp only [bestF, d, decide_false, if_false, Bool.false_eq_true]
          refine ⟨Int32.ofNat k, ⟨by rw [ex]; rfl, hl⟩, ?_⟩
          simp only [p12_senior_L9, obs, m_people h, zc_yes h.1 hi, if_true, m_of3 h hi, c, encB, nk, if_false, e1, e2, f1, f2, d, p12_senior_J55, i_succ]
    · have es : snF C i x = x := by rw [snF, if_neg c]
      refine ⟨encB x, ⟨by rw [es], hl⟩, ?_⟩
      simp only [p12_senior_L9, obs, m_people h, zc_yes h.1 hi, if_true, m_of3 h hi, c, if_false, p12_senior_J55, i_succ]
  · obtain ⟨rfl, h2⟩ := hR
    simp only [p12_senior_L9, obs, m_people h, zc_no h.1, if_false]
theorem op_senior : Dir1 g (fun M => p11_senior (ob g 0) M) (fun M => p12_senior (ob g 287) M) := dir1_of (sp := sp_sen) (fun s l r C h hC => by simp only [p11_senior, a_gd, a_R17, obs, c_senior h hC]) (fun s l r C h hC => by
  have hM := h.up (o := 287) (k := 0) (v := 0) (by decide)
  simp only [p12_senior, w_gd, w_putI, obs, m_senior hM hC])
end
