section
variable {g : Nat} {s : tS} {l : tL} {r : Nat → Nat} {C : Co} {G : Lg} {L : Lw}
/-! MATCH in the reference: the table -/
def bitsN (t : Nat) : Bs := fun j => t.testBit j
def TbS (C : Co) (j : Nat) (s : tS) : Prop := ∀ b, j ≤ b → b ≤ sz C → ∀ t, t < 256 → (s 300 (256 * b + t)).toInt = wM C (sz C - b) b (bitsN t)
theorem shl8 : ∀ b, b < 9 → (Int32.ofNat b <<< ((8 : Int32) &&& 31)) = Int32.ofNat (256 * b) := by decide
theorem k300 : lK 300 = 20 := by decide +kernel
theorem k301 : lK 301 = 20 := by decide +kernel
theorem k302 : lK 302 = 20 := by decide +kernel
theorem n300 : lNn 300 = 2304 := by decide +kernel
theorem n301 : lNn 301 = 8 := by decide +kernel
theorem n302 : lNn 302 = 8 := by decide +kernel
theorem w_R23 : getR (mm g s l r) (ob g 287) 12 23 = some (ob g 300) := mm_getR k287 (by decide +kernel) (by decide)
theorem w_R24 : getR (mm g s l r) (ob g 287) 12 24 = some (ob g 301) := mm_getR k287 (by decide +kernel) (by decide)
theorem w_R25 : getR (mm g s l r) (ob g 287) 12 25 = some (ob g 302) := mm_getR k287 (by decide +kernel) (by decide)
theorem u0_ld {k : Nat} (hk : k < 2304) : aldI (mm g s l r) (ob g 300) 20 (Int32.ofNat k) = some (s 300 k) := mm_aldI k300 n300 hk (by decide)
theorem u0_st {k : Nat} {v : Int32} (hk : k < 2304) : astI (mm g s l r) (ob g 300) (Int32.ofNat k) v = some (mm g (up2 s 300 k v) l r) := mm_astI k300 n300 hk (by decide)
theorem u1_ld {k : Nat} (hk : k < 8) : aldI (mm g s l r) (ob g 301) 20 (Int32.ofNat k) = some (s 301 k) := mm_aldI k301 n301 hk (by decide)
theorem u1_st {k : Nat} {v : Int32} (hk : k < 8) : astI (mm g s l r) (ob g 301) (Int32.ofNat k) v = some (mm g (up2 s 301 k v) l r) := mm_astI k301 n301 hk (by decide)
theorem m_wAt {b t : Nat} (hb : b < 9) : p12_worthAt (Int32.ofNat b) (Int32.ofNat t) (mm g s l r) = some (Int32.ofNat (256 * b + t)) := by
  rw [p12_worthAt, shl8 b hb, i_add]
theorem m_canp {b q : Nat} (h : Ms s C) (hC : VC C) (hb : b < sz C) (hq : q < sz C) : p12_canPair (ob g 287) (Int32.ofNat b) (Int32.ofNat q) (mm g s l r) = some (ib (cp C b q)) := by
  have hs := (hC.2.2.2.2.2.2 q hq).2.2.1
  by_cases c1 : C.2 b 2 = 0
  · by_cases c2 : C.2 q 2 = 0
    · have d : cp C b q = false := decide_eq_false (fun h => by
        have := h.2.1
        rw [c2] at this
        exact absurd this (by decide))
      rw [d]
      simp only [p12_canPair, w_gd, m_boy h hb, m_boy h hq, obs, decide_eq_true c1, decide_eq_true c2, ib_t, one_z, if_false, p12_canPair_J46, p12_canPair_J45, p12_canPair, bZ_0, ib_f]
    · have c2' : C.2 q 2 = 1 := by
        rcases hs with hs | hs
        · exact absurd hs c2
        · exact hs
      by_cases c3 : C.2 b 4 = -1
      · by_cases c4 : C.2 q 4 = -1
        · cases c5 : close C b q with
          | true =>
            have d : cp C b q = false := decide_eq_false (fun h => by
              have := h.2.2.2.2
              rw [c5] at this
              cases this)
            rw [d]
            simp only [p12_canPair, w_gd, m_boy h hb, m_boy h hq, m_single h hb, m_single h hq, m_close h hb hq, obs, decide_eq_true c1, decide_eq_false c2, decide_eq_true c3, decide_eq_true c4, c5, ib_t, ib_f, one_z, if_false, if_true, p12_canPair_J46, p12_canPair_J45, p12_canPair, bZ_0]
          | false =>
            have d : cp C b q = true := decide_eq_true ⟨c1, c2', c3, c4, c5⟩
            rw [d]
            simp only [p12_canPair, w_gd, m_boy h hb, m_boy h hq, m_single h hb, m_single h hq, m_close h hb hq, obs, decide_eq_true c1, decide_eq_false c2, decide_eq_true c3, decide_eq_true c4, c5, ib_t, ib_f, one_z, if_false, if_true, p12_canPair_J46, p12_canPair_J45, p12_canPair, bZ_1]
        · have d : cp C b q = false := decide_eq_false (fun h => c4 h.2.2.2.1)
          rw [d]
          simp only [p12_canPair, w_gd, m_boy h hb, m_boy h hq, m_single h hb, m_single h hq, obs, decide_eq_true c1, decide_eq_false c2, decide_eq_true c3, decide_eq_false c4, ib_t, ib_f, one_z, if_false, if_true, p12_canPair_J46, p12_canPair_J45, p12_canPair, bZ_0]
      · have d : cp C b q = false := decide_eq_false (fun h => c3 h.2.2.1)
        rw [d]
        simp only [p12_canPair, w_gd, m_boy h hb, m_boy h hq, m_single h hb, obs, decide_eq_true c1, decide_eq_false c2, decide_eq_false c3, ib_t, ib_f, one_z, if_false, if_true, p12_canPair_J46, p12_canPair_J45, p12_canPair, bZ_0]
  · have d : cp C b q = false := decide_eq_false (fun h => c1 h.1)
    rw [d]
    simp only [p12_canPair, w_gd, m_boy h hb, obs, decide_eq_false c1, ib_f, if_true, p12_canPair_J46, p12_canPair_J45, p12_canPair, bZ_0]
theorem bits_or {t q : Nat} : bitsN (t ||| 2 ^ q) = stB (bitsN t) q := by
  funext j
  show (t ||| 2 ^ q).testBit j = _
  rw [Nat.testBit_or, Nat.testBit_two_pow, stB]
  by_cases e : j = q
  · rw [if_pos e, decide_eq_true e.symm, Bool.or_true]
  · rw [if_neg e, decide_eq_false (fun h => e h.symm), Bool.or_false]
    rfl
theorem wM_le (hC : VC C) {k b : Nat} {T : Bs} (h : b + k = sz C) : wM C k b T ≤ 8000 := by
  obtain ⟨c1, c2, c3, c4, c5⟩ := cM_ok hC k b T h
  have := hC.1.2
  omega
theorem m_by {b t q : Nat} (h : Ms s C) (hC : VC C) (hT : TbS C (b + 1) s) (hb : b < sz C) (ht : t < 256) (hq : q ≤ sz C) : ∃ v, p12_worthBy (ob g 287) (Int32.ofNat b) (Int32.ofNat t) (Int32.ofNat q) (mm g s l r) = some v ∧ v.toInt = ovM' C (wM C (sz C - (b + 1)) (b + 1)) b (bitsN t) q := by
  have h8 := hC.1.2
  have eq1 : (Int32.ofNat q = C.1 0) = (q = sz C) := by
    rw [hC.1.1]
    exact propext (i_eq (by omega) (by omega))
  unfold ovM'
  by_cases e : q = sz C
  · rw [if_pos e]
    refine ⟨s 300 (256 * (b + 1) + t), ?_, hT (b + 1) (Nat.le_refl _) (by omega) t ht⟩
    have et : (Int32.ofNat q = C.1 0) = True := by rw [eq1]; exact eq_true e
    simp only [p12_worthBy, w_gd, m_people h, obs, et, if_true, w_R23, i_succ, m_wAt (show b + 1 < 9 by omega), u0_ld (show 256 * (b + 1) + t < 2304 by omega)]
  · rw [if_neg e]
    have ef : (Int32.ofNat q = C.1 0) = False := by rw [eq1]; exact eq_false e
    have hq' : q < sz C := by omega
    have hb8 := bits_tab t ht q (by omega)
    have m1 : (-1000000 : Int32).toInt = -1000000 := by decide
    cases htb : t.testBit q with
    | true =>
      rw [htb] at hb8
      have : ¬ (cp C b q && !bitsN t q) = true := by
        show ¬ (cp C b q && !t.testBit q) = true
        rw [htb]
        simp
      rw [if_neg this]
      refine ⟨-1000000, ?_, m1⟩
      simp only [p12_worthBy, w_gd, m_people h, obs, ef, if_false, m_has, hb8, ib_t, one_z, p12_worthBy_J38]
    | false =>
      rw [htb] at hb8
      cases hcp : cp C b q with
      | false =>
        rw [Bool.false_and, if_neg (by decide)]
        refine ⟨-1000000, ?_, m1⟩
        simp only [p12_worthBy, w_gd, m_people h, obs, ef, if_false, m_has, hb8, ib_f, if_true, m_canp h hC hb hq', hcp, p12_worthBy_J38]
      | true =>
        have : (true && !bitsN t q) = true := by
          show (true && !t.testBit q) = true
          rw [htb]
          rfl
        rw [if_pos this]
        have ht2 : t ||| 2 ^ q < 256 := Nat.or_lt_two_pow (n := 8) ht (Nat.pow_lt_pow_right (by decide) (by omega))
        have eb : Int32.ofNat t ||| ((1 : Int32) <<< (Int32.ofNat q &&& 31)) = Int32.ofNat (t ||| 2 ^ q) := bt_tab t ht q (by omega)
        have hw := hT (b + 1) (Nat.le_refl _) (by omega) (t ||| 2 ^ q) ht2
        rw [bits_or] at hw
        have hg := gap_b hC hb hq'
        have hn := wM_nn (C := C) (sz C - (b + 1)) (b + 1) (stB (bitsN t) q)
        have hl := wM_le (C := C) hC (k := sz C - (b + 1)) (b := b + 1) (T := stB (bitsN t) q) (by omega)
        have t1 : (1000 : Int32).toInt = 1000 := rfl
        unfold gI at hg ⊢
        have e1 : ((1000 : Int32) - gapF C b q).toInt = 1000 - (gapF C b q).toInt := by rw [i_tsub] <;> omega
        refine ⟨(1000 : Int32) - gapF C b q + s 300 (256 * (b + 1) + (t ||| 2 ^ q)), ?_, ?_⟩
        · simp only [p12_worthBy, w_gd, m_people h, obs, ef, if_false, m_has, hb8, ib_f, ib_t, one_z, if_true, m_canp h hC hb hq', hcp, m_gap h hb hq', w_R23, i_succ, eb, m_wAt (show b + 1 < 9 by omega), u0_ld (show 256 * (b + 1) + (t ||| 2 ^ q) < 2304 by omega)]
        · rw [i_tadd, e1, hw] <;> rw [e1, hw] <;> omega
theorem ms_300 {k : Nat} {v : Int32} (h : Ms s C) : Ms (up2 s 300 k v) C := h.up (by decide)
def f300 (o : Nat) : Prop := o = 300
theorem ms_f300 {s' : tS} (h : Ms s C) (f : Fr f300 s s') : Ms s' C := h.fr f (fun o ho => by unfold f300 at ho; omega)
/-- one cell of the table -/
theorem m_cell {b t n : Nat} {K : Nat → Int32 → mMem → Option mMem} (h : Ms s C) (hC : VC C) (hT : TbS C (b + 1) s) (hb : b < sz C) (ht : t < 256) : ∃ v : Int32, p12_laysWorth_L56 (p12_laysWorth_J84 (p12_laysWorth_L42 K n)) gF (ob g 287) (Int32.ofNat b) (Int32.ofNat t) (-1000000) 0 (mm g s l r) = p12_laysWorth_L42 K n (ob g 287) (Int32.ofNat b) (Int32.ofNat (t + 1)) (mm g (up2 s 300 (256 * b + t) v) l r) ∧ v.toInt = wM C (sz C - b) b (bitsN t) := by
  have h8 := hC.1.2
  have m1 : (-1000000 : Int32).toInt = -1000000 := by decide
  have key : ∃ v : Int32, p12_laysWorth_L56 (p12_laysWorth_J84 (p12_laysWorth_L42 K n)) gF (ob g 287) (Int32.ofNat b) (Int32.ofNat t) (-1000000) 0 (mm g s l r) = p12_laysWorth_J84 (p12_laysWorth_L42 K n) (ob g 287) (Int32.ofNat b) (Int32.ofNat t) v (mm g s l r) ∧ v.toInt = itF (fun q x => if x < ovM' C (wM C (sz C - (b + 1)) (b + 1)) b (bitsN t) q then ovM' C (wM C (sz C - (b + 1)) (b + 1)) b (bitsN t) q else x) (sz C + 1) 0 (-1000000) := by
    refine it_sf (L := fun m (a : Int32) i => p12_laysWorth_L56 (p12_laysWorth_J84 (p12_laysWorth_L42 K n)) m (ob g 287) (Int32.ofNat b) (Int32.ofNat t) a i (mm g s l r)) (R := fun _ a x => a.toInt = x) (f := fun q x => if x < ovM' C (wM C (sz C - (b + 1)) (b + 1)) b (bitsN t) q then ovM' C (wM C (sz C - (b + 1)) (b + 1)) b (bitsN t) q else x) (Q := fun B x => ∃ v : Int32, B = p12_laysWorth_J84 (p12_laysWorth_L42 K n) (ob g 287) (Int32.ofNat b) (Int32.ofNat t) v (mm g s l r) ∧ v.toInt = x) (N := sz C + 1) (fun m i a x hi hR => ?_) (fun m a x hR => ?_) (sz C + 1) gF 0 (-1000000) (-1000000) (by omega) (gF_gt (by omega)) m1
    · obtain ⟨v, e1, e2⟩ := m_by (g := g) (l := l) (r := r) h hC hT hb ht (show i ≤ sz C by omega)
      have nl : ¬ C.1 0 < Int32.ofNat i := fun c => by
        rw [hC.1.1] at c
        have := (i_lt (by omega) (by omega)).mp c
        omega
      refine ⟨maxI a v, ?_, ?_⟩
      · show (maxI a v).toInt = if x < _ then _ else x
        rw [← e2, ← hR]
        unfold maxI
        by_cases c : a < v
        · rw [if_pos c, if_pos (i_ltI.mp c)]
        · rw [if_neg c, if_neg (fun hh => c (i_ltI.mpr hh))]
      · simp only [p12_laysWorth_L56, m_people h, obs, nl, if_false, e1, i_succ]
    · have yl : C.1 0 < Int32.ofNat (sz C + 1) := by
        rw [hC.1.1]
        exact (i_lt (by omega) (by omega)).mpr (by omega)
      refine ⟨a, ?_, hR⟩
      simp only [p12_laysWorth_L56, m_people h, obs, yl, if_true]
  obtain ⟨v, e1, e2⟩ := key
  rw [mx_fold (v := ovM' C (wM C (sz C - (b + 1)) (b + 1)) b (bitsN t)) (fun _ _ => rfl) (sz C + 1) 0 (-1000000) (Int.le_refl _)] at e2
  have hk : sz C - b = (sz C - (b + 1)) + 1 := by omega
  have ew : wM C (sz C - b) b (bitsN t) = mxW (ovM' C (wM C (sz C - (b + 1)) (b + 1)) b (bitsN t)) (sz C + 1) 0 := by rw [hk]; rfl
  have hn := wM_nn (C := C) (sz C - b) b (bitsN t)
  rw [← ew, if_pos (by omega)] at e2
  refine ⟨v, ?_, e2⟩
  rw [e1]
  simp only [p12_laysWorth_J84, w_R23, obs, m_wAt (show b < 9 by omega), u0_st (show 256 * b + t < 2304 by omega), i_succ]
theorem m_row {b n : Nat} (h : Ms s C) (hC : VC C) (hT : TbS C (b + 1) s) (hb : b < sz C) : ∃ s', p12_laysWorth_L42 (p12_laysWorth_J101 (p12_laysWorth_L36 n)) gF (ob g 287) (Int32.ofNat b) 0 (mm g s l r) = p12_laysWorth_L36 n (ob g 287) (Int32.ofNat b + (-1)) (mm g s' l r) ∧ TbS C b s' ∧ Fr f300 s s' := by
  have h8 := hC.1.2
  refine it_inv (L := fun m (a : tS) i => p12_laysWorth_L42 (p12_laysWorth_J101 (p12_laysWorth_L36 n)) m (ob g 287) (Int32.ofNat b) i (mm g a l r)) (P := fun t a => (∀ t', t' < t → (a 300 (256 * b + t')).toInt = wM C (sz C - b) b (bitsN t')) ∧ TbS C (b + 1) a ∧ Fr f300 s a) (Q := fun B => ∃ s', B = p12_laysWorth_L36 n (ob g 287) (Int32.ofNat b + (-1)) (mm g s' l r) ∧ TbS C b s' ∧ Fr f300 s s') (N := 256) (fun m t a ht hP => ?_) (fun m a hP => ?_) 256 gF 0 s (by omega) (gF_gt (by omega)) ⟨fun t' h => absurd h (Nat.not_lt_zero t'), hT, Fr.refl⟩
  · obtain ⟨h1, h2, h3⟩ := hP
    obtain ⟨v, e1, e2⟩ := m_cell (g := g) (l := l) (r := r) (n := m) (K := p12_laysWorth_J101 (p12_laysWorth_L36 n)) (ms_f300 h h3) hC h2 hb ht
    have c : (Int32.ofNat t < 256) = True := eq_true ((i_lt (b := 256) (by omega) (by decide)).mpr ht)
    left
    refine ⟨up2 a 300 (256 * b + t) v, ⟨fun t' ht' => ?_, fun b' hb' hb2 t' ht' => ?_, h3.trans (Fr.up rfl)⟩, ?_⟩
    · by_cases e : t' = t
      · subst e
        rw [up2_eq]
        exact e2
      · rw [up2_ne (by omega)]
        exact h1 t' (by omega)
    · rw [up2_ne (by omega)]
      exact h2 b' hb' hb2 t' ht'
    · simp only [p12_laysWorth_L42, c, if_true]
      exact e1
  · obtain ⟨h1, h2, h3⟩ := hP
    have c : ((Int32.ofNat 256 : Int32) < 256) = False := eq_false (by decide)
    refine ⟨a, ?_, fun b' hb' hb2 t' ht' => ?_, h3⟩
    · simp only [p12_laysWorth_L42, c, if_false, p12_laysWorth_J101]
    · by_cases e : b' = b
      · subst e
        exact h1 t' ht'
      · exact h2 b' (by omega) hb2 t' ht'
theorem dsc : ∀ n, n < 9 → ∀ i, i < n → (Int32.ofNat n - 1 - Int32.ofNat i = Int32.ofNat (n - 1 - i) ∧ ¬ Int32.ofNat n - 1 - Int32.ofNat i < 0) ∧ Int32.ofNat n - 1 - Int32.ofNat i + (-1) = Int32.ofNat n - 1 - Int32.ofNat (i + 1) := by decide
theorem dsc_n : ∀ n, n < 9 → Int32.ofNat n - 1 - Int32.ofNat n < 0 := by decide
theorem m_lays (h : Ms s C) (hC : VC C) : ∃ s', p12_laysWorth (ob g 287) (mm g s l r) = some (mm g s' l r) ∧ TbS C 0 s' ∧ Fr f300 s s' := by
  have h8 := hC.1.2
  have ez : C.1 0 = Int32.ofNat (sz C) := hC.1.1
  obtain ⟨s1, e1, T1, f1⟩ : ∃ s', p12_laysWorth_L2 p12_laysWorth_J29 gF (ob g 287) 0 (mm g s l r) = p12_laysWorth_J29 (ob g 287) (mm g s' l r) ∧ TbS C (sz C) s' ∧ Fr f300 s s' := by
    refine it_inv (L := fun m (a : tS) i => p12_laysWorth_L2 p12_laysWorth_J29 m (ob g 287) i (mm g a l r)) (P := fun t a => (∀ t', t' < t → a 300 (256 * sz C + t') = 0) ∧ Fr f300 s a) (Q := fun B => ∃ s', B = p12_laysWorth_J29 (ob g 287) (mm g s' l r) ∧ TbS C (sz C) s' ∧ Fr f300 s s') (N := 256) (fun m t a ht hP => ?_) (fun m a hP => ?_) 256 gF 0 s (by omega) (gF_gt (by omega)) ⟨fun t' h => absurd h (Nat.not_lt_zero t'), Fr.refl⟩
    · obtain ⟨h1, h3⟩ := hP
      have c : (Int32.ofNat t < 256) = True := eq_true ((i_lt (b := 256) (by omega) (by decide)).mpr ht)
      left
      refine ⟨up2 a 300 (256 * sz C + t) 0, ⟨fun t' ht' => ?_, h3.trans (Fr.up rfl)⟩, ?_⟩
      · by_cases e : t' = t
        · subst e
          exact up2_eq
        · rw [up2_ne (by omega)]
          exact h1 t' (by omega)
      · have pe : p12_people (ob g 287) (mm g a l r) = some (Int32.ofNat (sz C)) := by rw [m_people (ms_f300 h h3), ← ez]
        simp only [p12_laysWorth_L2, c, if_true, w_R23, pe, obs, m_wAt (show sz C < 9 by omega), u0_st (show 256 * sz C + t < 2304 by omega), i_succ]
    · obtain ⟨h1, h3⟩ := hP
      have c : ((Int32.ofNat 256 : Int32) < 256) = False := eq_false (by decide)
      refine ⟨a, ?_, fun b hb hb2 t ht => ?_, h3⟩
      · simp only [p12_laysWorth_L2, c, if_false]
      · have : b = sz C := by omega
        subst this
        rw [h1 t ht, Nat.sub_self]
        rfl
  obtain ⟨s2, e2, T2, f2⟩ : ∃ s', p12_laysWorth_L36 gF (ob g 287) (Int32.ofNat (sz C) - 1 - Int32.ofNat 0) (mm g s1 l r) = some (mm g s' l r) ∧ TbS C 0 s' ∧ Fr f300 s s' := by
    refine it_inv (L := fun m (a : tS) i => p12_laysWorth_L36 m (ob g 287) (Int32.ofNat (sz C) - 1 - i) (mm g a l r)) (P := fun i a => TbS C (sz C - i) a ∧ Fr f300 s a) (Q := fun B => ∃ s', B = some (mm g s' l r) ∧ TbS C 0 s' ∧ Fr f300 s s') (N := sz C) (fun m i a hi hP => ?_) (fun m a hP => ?_) (sz C) gF 0 s1 (by omega) (gF_gt (by omega)) ⟨T1, f1⟩
    · obtain ⟨h1, h3⟩ := hP
      obtain ⟨⟨q1, q2⟩, q3⟩ := dsc (sz C) (by omega) i hi
      have hb1 : sz C - i = sz C - 1 - i + 1 := by omega
      rw [hb1] at h1
      obtain ⟨s', e', T', f'⟩ := m_row (g := g) (l := l) (r := r) (n := m) (b := sz C - 1 - i) (ms_f300 h h3) hC h1 (by omega)
      left
      refine ⟨s', ⟨by rw [show sz C - (i + 1) = sz C - 1 - i by omega]; exact T', h3.trans f'⟩, ?_⟩
      show p12_laysWorth_L36 (m + 1) (ob g 287) (Int32.ofNat (sz C) - 1 - Int32.ofNat i) (mm g a l r) = p12_laysWorth_L36 m (ob g 287) (Int32.ofNat (sz C) - 1 - Int32.ofNat (i + 1)) (mm g s' l r)
      rw [← q3]
      rw [q1] at q2 ⊢
      simp only [p12_laysWorth_L36, q2, if_false]
      exact e'
    · obtain ⟨h1, h3⟩ := hP
      refine ⟨a, ?_, by rw [Nat.sub_self] at h1; exact h1, h3⟩
      show p12_laysWorth_L36 (m + 1) (ob g 287) (Int32.ofNat (sz C) - 1 - Int32.ofNat (sz C)) (mm g a l r) = _
      have z := dsc_n (sz C) (by omega)
      simp only [p12_laysWorth_L36, z, if_true]
  have z : Int32.ofNat (sz C) - 1 - Int32.ofNat 0 = C.1 0 - 1 := by
    rw [ez]
    show Int32.ofNat (sz C) - 1 - 0 = _
    rw [Int32.sub_zero]
  rw [z] at e2
  refine ⟨s2, ?_, T2, f2⟩
  rw [p12_laysWorth, w_gd, e1, p12_laysWorth_J29, m_people (ms_f300 h f1), obs]
  exact e2
end
