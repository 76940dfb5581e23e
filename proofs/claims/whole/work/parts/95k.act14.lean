section
variable {g : Nat} {s : tS} {l : tL} {r : Nat → Nat} {C : Co} {G : Lg} {L : Lw}
/-! SPREAD -/
def spg (C : Co) (i j : Nat) : Int32 := if C.2 j 0 - C.2 i 0 < 0 then C.2 j 0 - C.2 i 0 + C.1 4 else C.2 j 0 - C.2 i 0
def mxF (C : Co) (i : Nat) : Int32 := iter (fun j x => maxI x (spg C i j)) (sz C) 0
theorem spg_b {i j : Nat} (hC : VC C) (hi : i < sz C) (hj : j < sz C) : (0 ≤ (spg C i j).toInt ∧ (spg C i j).toInt ≤ 98) ∧ rem32 (C.2 j 0 - C.2 i 0 + C.1 4) (C.1 4) = spg C i j := by
  have hr := vc_r hC
  have a := (hC.2.2.2.2.2.2 i hi).1
  have b := (hC.2.2.2.2.2.2 j hj).1
  have z : (0 : Int32).toInt = 0 := rfl
  have e1 : (C.2 j 0 - C.2 i 0).toInt = (C.2 j 0).toInt - (C.2 i 0).toInt := by rw [i_tsub] <;> omega
  have e2 : (C.2 j 0 - C.2 i 0 + C.1 4).toInt = (C.2 j 0).toInt - (C.2 i 0).toInt + (C.1 4).toInt := by rw [i_tadd] <;> omega
  have e3 := rem32_toInt (x := C.2 j 0 - C.2 i 0 + C.1 4) (y := C.1 4) (by omega) (by omega)
  by_cases c : C.2 j 0 - C.2 i 0 < 0
  · have c' := i_ltI.mp c
    have es : spg C i j = C.2 j 0 - C.2 i 0 + C.1 4 := if_pos c
    rw [es]
    refine ⟨by omega, i_ext ?_⟩
    rw [e3, Int.emod_eq_of_lt (by omega) (by omega)]
  · have c' : ¬ (C.2 j 0 - C.2 i 0).toInt < (0 : Int32).toInt := fun h => c (i_ltI.mpr h)
    have es : spg C i j = C.2 j 0 - C.2 i 0 := if_neg c
    rw [es]
    refine ⟨by omega, i_ext ?_⟩
    rw [e3, e2, e1, Int.add_emod_right, Int.emod_eq_of_lt (by omega) (by omega)]
theorem max_b {x y : Int32} (hx : 0 ≤ x.toInt ∧ x.toInt ≤ 98) (hy : 0 ≤ y.toInt ∧ y.toInt ≤ 98) : 0 ≤ (maxI x y).toInt ∧ (maxI x y).toInt ≤ 98 := by
  unfold maxI
  by_cases c : x < y
  · rw [if_pos c]; exact hy
  · rw [if_neg c]; exact hx
theorem mx_b {i : Nat} (hC : VC C) (hi : i < sz C) : 0 ≤ (mxF C i).toInt ∧ (mxF C i).toInt ≤ 98 := by
  have : ∀ n, n ≤ sz C → 0 ≤ (iter (fun j x => maxI x (spg C i j)) n 0).toInt ∧ (iter (fun j x => maxI x (spg C i j)) n 0).toInt ≤ 98 := by
    intro n
    induction n with
    | zero => intro _; exact (by decide : 0 ≤ (0 : Int32).toInt ∧ (0 : Int32).toInt ≤ 98)
    | succ n ih => intro hn; exact max_b (ih (by omega)) (spg_b hC hi (by omega)).1
  exact this _ (Nat.le_refl _)
def spF (C : Co) (i : Nat) (x : Option Int32) : Option Int32 := match x with
  | none => some (mxF C i)
  | some v => if mxF C i < v then some (mxF C i) else some v
def okO (x : Option Int32) : Prop := ∀ v, x = some v → 0 ≤ v.toInt ∧ v.toInt ≤ 98
def gO (d : Int32) (x : Option Int32) : Int32 := match x with
  | none => d
  | some v => v
theorem okO_s {i : Nat} {x : Option Int32} (hC : VC C) (hi : i < sz C) (h : okO x) : okO (spF C i x) := by
  intro v hv
  cases x with
  | none =>
    have : mxF C i = v := Option.some.inj hv
    rw [← this]
    exact mx_b hC hi
  | some w =>
    by_cases c : mxF C i < w
    · have e : spF C i (some w) = some (mxF C i) := if_pos c
      rw [e] at hv
      rw [← Option.some.inj hv]
      exact mx_b hC hi
    · have e : spF C i (some w) = some w := if_neg c
      rw [e] at hv
      exact h v hv
theorem okO_n {d : Int32} {x : Option Int32} (h : okO x) (hd : d.toInt < 0 ∨ 98 < d.toInt) {v : Int32} (e : x = some v) : (v = d) = False := eq_false fun c => by
  have := h v e
  rw [c] at this
  omega
def sp_spread (C : Co) : Int32 := gO 0 (itF (spF C) (sz C) 0 none)
theorem c_spread (h : Is s 2 C) (hC : VC C) : p11_spread (ob g 0) (mm g s l r) = some (sp_spread C) := by
  rw [p11_spread, a_gd]
  refine it_sf (L := fun n (a : Int32) i => p11_spread_L4 (mm g s l r) (p11_spread_J107 (mm g s l r)) n (ob g 0) a i) (R := fun i a x => a = gO (-1) x ∧ okO x) (f := spF C) (Q := fun B x => B = some (gO 0 x)) (N := sz C) (fun n i a x hi hR => ?_) (fun n a x hR => ?_) (sz C) gF 0 (-1) none (by omega) (sz_gF h.2.1) ⟨rfl, fun j hj => (by cases hj)⟩
  · obtain ⟨rfl, hx⟩ := hR
    refine ⟨gO (-1) (spF C i x), ⟨rfl, okO_s hC hi hx⟩, ?_⟩
    simp only [p11_spread_L4, a_R3, obs, c_n h, zc_yes h.2.1 hi, if_true]
    have e := it_up (fun m a' j => p11_spread_L20 (mm g s l r) (p11_spread_J89 (mm g s l r) (p11_spread_L4 (mm g s l r) (p11_spread_J107 (mm g s l r)) n)) m (ob g 0) (gO (-1) x) (Int32.ofNat i) a' j) (sz C) (fun j x => maxI x (spg C i j)) (fun a' => p11_spread_J89 (mm g s l r) (p11_spread_L4 (mm g s l r) (p11_spread_J107 (mm g s l r)) n) (ob g 0) (gO (-1) x) (Int32.ofNat i) a') (fun m j a' hj => by
      by_cases c : C.2 j 0 - C.2 i 0 < 0
      · have ee : spg C i j = C.2 j 0 - C.2 i 0 + C.1 4 := if_pos c
        simp only [p11_spread_L20, a_R3, obs, c_n h, zc_yes h.2.1 hj, if_true, c_at h hi, c_p h hi (show 0 < 9 by decide), c_at h hj, c_p h hj (show 0 < 9 by decide), c, c_round h, p11_spread_J79, i_succ, ee]
      · have ee : spg C i j = C.2 j 0 - C.2 i 0 := if_neg c
        simp only [p11_spread_L20, a_R3, obs, c_n h, zc_yes h.2.1 hj, if_true, c_at h hi, c_p h hi (show 0 < 9 by decide), c_at h hj, c_p h hj (show 0 < 9 by decide), c, if_false, p11_spread_J79, i_succ, ee]) (fun m a' => by
      simp only [p11_spread_L20, a_R3, obs, c_n h, zc_no h.2.1, if_false]) gF 0 (sz_gF h.2.1)
    refine e.trans ?_
    show p11_spread_J89 (mm g s l r) (p11_spread_L4 (mm g s l r) (p11_spread_J107 (mm g s l r)) n) (ob g 0) (gO (-1) x) (Int32.ofNat i) (mxF C i) = _
    cases x with
    | none => simp only [p11_spread_J89, gO, if_true, p11_spread_J99, p11_spread_J101, i_succ, spF]
    | some v =>
      have nv := okO_n (d := -1) hx (Or.inl (by decide)) rfl
      by_cases c : mxF C i < v
      · simp only [p11_spread_J89, gO, nv, if_false, c, if_true, p11_spread_J99, p11_spread_J101, i_succ, spF]
      · simp only [p11_spread_J89, gO, nv, if_false, c, p11_spread_J101, i_succ, spF]
  · obtain ⟨rfl, hx⟩ := hR
    simp only [p11_spread_L4, a_R3, obs, c_n h, zc_no h.2.1, if_false]
    cases x with
    | none => simp only [p11_spread_J107, gO, if_true, p11_spread_J117]
    | some v =>
      have nv := okO_n (d := -1) hx (Or.inl (by decide)) rfl
      simp only [p11_spread_J107, gO, nv, if_false, p11_spread_J117]
theorem m_spread (h : Ms s C) (hC : VC C) : p12_spread_L10 p12_spread_J83 gF (ob g 287) 1000000 0 (mm g s l r) = some (sp_spread C, mm g s l r) := by
  have hr := vc_r hC
  have rnz : C.1 4 ≠ 0 := i_nz (by omega)
  refine it_sf (L := fun n (a : Int32) i => p12_spread_L10 p12_spread_J83 n (ob g 287) a i (mm g s l r)) (R := fun i a x => a = gO 1000000 x ∧ okO x) (f := spF C) (Q := fun B x => B = some (gO 0 x, mm g s l r)) (N := sz C) (fun n i a x hi hR => ?_) (fun n a x hR => ?_) (sz C) gF 0 1000000 none (by omega) (sz_gF h.1) ⟨rfl, fun j hj => (by cases hj)⟩
  · obtain ⟨rfl, hx⟩ := hR
    refine ⟨gO 1000000 (spF C i x), ⟨rfl, okO_s hC hi hx⟩, ?_⟩
    simp only [p12_spread_L10, obs, m_people h, zc_yes h.1 hi, if_true]
    have e := it_up (fun m a' j => p12_spread_L23 (p12_spread_J71 (p12_spread_L10 p12_spread_J83 n)) m (ob g 287) (gO 1000000 x) (Int32.ofNat i) a' j (mm g s l r)) (sz C) (fun j x => maxI x (spg C i j)) (fun a' => p12_spread_J71 (p12_spread_L10 p12_spread_J83 n) (ob g 287) (gO 1000000 x) (Int32.ofNat i) a' (mm g s l r)) (fun m j a' hj => by
      have eg := (spg_b hC hi hj).2
      simp only [p12_spread_L23, obs, m_people h, zc_yes h.1 hj, if_true, m_of0 h hi, m_of0 h hj, w_R1, m_4 h, remI_ne rnz, eg, i_succ]) (fun m a' => by
      simp only [p12_spread_L23, obs, m_people h, zc_no h.1, if_false]) gF 0 (sz_gF h.1)
    refine e.trans ?_
    show p12_spread_J71 (p12_spread_L10 p12_spread_J83 n) (ob g 287) (gO 1000000 x) (Int32.ofNat i) (mxF C i) (mm g s l r) = _
    cases x with
    | none =>
      have hb := mx_b hC hi
      have z : (1000000 : Int32).toInt = 1000000 := by decide
      have c : mxF C i < 1000000 := i_ltI.mpr (by omega)
      simp only [p12_spread_J71, gO, minI, c, if_true, i_succ, spF]
    | some v =>
      by_cases c : mxF C i < v
      · simp only [p12_spread_J71, gO, minI, c, if_true, i_succ, spF]
      · simp only [p12_spread_J71, gO, minI, c, if_false, i_succ, spF]
  · obtain ⟨rfl, hx⟩ := hR
    simp only [p12_spread_L10, obs, m_people h, zc_no h.1, if_false]
    cases x with
    | none => simp only [p12_spread_J83, gO, if_true, p12_spread_J94]
    | some v =>
      have nv := okO_n (d := 1000000) hx (Or.inr (by decide)) rfl
      simp only [p12_spread_J83, gO, nv, if_false, p12_spread_J94]
theorem op_spread : Dir1 g (fun M => p11_spread (ob g 0) M) (fun M => p12_spread (ob g 287) M) := dir1_of (sp := sp_spread) (fun s l r C h hC => c_spread h hC) (fun s l r C h hC => by
  have hM := h.up (o := 287) (k := 0) (v := 0) (by decide)
  simp only [p12_spread, w_gd, w_putI, obs, m_spread hM hC])
end
