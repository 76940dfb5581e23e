section
variable {g : Nat} {s : tS} {l : tL} {r : Nat → Nat} {C : Co} {G : Lg} {L : Lw}
/-! MATCH in the class -/
theorem k115 : lK 115 = 20 := by decide +kernel
theorem k116 : lK 116 = 20 := by decide +kernel
theorem k117 : lK 117 = 20 := by decide +kernel
theorem n115 : lNn 115 = 8 := by decide +kernel
theorem n116 : lNn 116 = 8 := by decide +kernel
theorem n117 : lNn 117 = 8 := by decide +kernel
theorem z_R1 : getR (mm g s l r) (ob g 114) 8 1 = some (ob g 115) := mm_getR k114 (by decide +kernel) (by decide)
theorem z_R2 : getR (mm g s l r) (ob g 114) 8 2 = some (ob g 116) := mm_getR k114 (by decide +kernel) (by decide)
theorem z_R3 : getR (mm g s l r) (ob g 114) 8 3 = some (ob g 117) := mm_getR k114 (by decide +kernel) (by decide)
theorem z_I {k : Nat} : getI (mm g s l r) (ob g 114) 8 k = some (s 114 k) := mm_getI k114
theorem z_P {k : Nat} {v : Int32} : putI (mm g s l r) (ob g 114) 8 k v = some (mm g (up2 s 114 k v) l r) := mm_putI k114
theorem d1_ld {k : Nat} (hk : k < 8) : aldI (mm g s l r) (ob g 115) 20 (Int32.ofNat k) = some (s 115 k) := mm_aldI k115 n115 hk (by decide)
theorem d1_st {k : Nat} {v : Int32} (hk : k < 8) : astI (mm g s l r) (ob g 115) (Int32.ofNat k) v = some (mm g (up2 s 115 k v) l r) := mm_astI k115 n115 hk (by decide)
theorem d2_ld {k : Nat} (hk : k < 8) : aldI (mm g s l r) (ob g 116) 20 (Int32.ofNat k) = some (s 116 k) := mm_aldI k116 n116 hk (by decide)
theorem d2_len : lenA (mm g s l r) (ob g 116) = some 8 := by rw [mm_lenA (by rw [k116]; decide), n116]; rfl
theorem d1_len : lenA (mm g s l r) (ob g 115) = some 8 := by rw [mm_lenA (by rw [k115]; decide), n115]; rfl
theorem c_sing {x : Nat} {so : Int32} (h : Is s 2 C) (hx : x < 8) : p7_isSingle (ob g 114) (Int32.ofNat x) so (mm g s l r) = some (ib (decide (x < sz C ∧ C.2 x 2 = so ∧ C.2 x 4 = -1))) := by
  by_cases c : x < sz C
  · by_cases c1 : C.2 x 2 = so
    · by_cases c2 : C.2 x 4 = -1
      · have d : decide (x < sz C ∧ C.2 x 2 = so ∧ C.2 x 4 = -1) = true := decide_eq_true ⟨c, c1, c2⟩
        rw [d]
        simp only [p7_isSingle, z_gd, z_R0, obs, c_has h, inR_of h.2.1 c, ib_t, one_z, if_false, c_at h c, c_p h c (show 2 < 9 by decide), c_p h c (show 4 < 9 by decide), c1, c2, if_true, p7_isSingle_J46, p7_isSingle_J45, p7_isSingle, bZ_1, ib_t]
      · have d : decide (x < sz C ∧ C.2 x 2 = so ∧ C.2 x 4 = -1) = false := decide_eq_false (fun h => c2 h.2.2)
        rw [d]
        simp only [p7_isSingle, z_gd, z_R0, obs, c_has h, inR_of h.2.1 c, ib_t, one_z, if_false, c_at h c, c_p h c (show 2 < 9 by decide), c_p h c (show 4 < 9 by decide), c1, c2, if_true, p7_isSingle_J46, p7_isSingle_J45, p7_isSingle, bZ_0, ib_f]
    · have d : decide (x < sz C ∧ C.2 x 2 = so ∧ C.2 x 4 = -1) = false := decide_eq_false (fun h => c1 h.2.1)
      rw [d]
      simp only [p7_isSingle, z_gd, z_R0, obs, c_has h, inR_of h.2.1 c, ib_t, one_z, if_false, c_at h c, c_p h c (show 2 < 9 by decide), c1, p7_isSingle_J46, p7_isSingle_J45, p7_isSingle, bZ_0, ib_f]
  · have e : inR C (Int32.ofNat x) = false := decide_eq_false (fun hc => c ((zc_lt h.2.1 (by omega)).mp hc.2))
    have d : decide (x < sz C ∧ C.2 x 2 = so ∧ C.2 x 4 = -1) = false := decide_eq_false (fun h => c h.1)
    rw [d]
    simp only [p7_isSingle, z_gd, z_R0, obs, c_has h, e, ib_f, if_true, p7_isSingle_J46, p7_isSingle_J45, p7_isSingle, bZ_0]
/-- the best so far: how many, GAPS, who -/
abbrev Bx : Type := Int32 × Int32 × Mt
def valB (x : Bx) : Int := 1000 * x.1.toInt - x.2.1.toInt
def okX (x : Bx) : Prop := 0 ≤ x.1.toInt ∧ x.1.toInt ≤ 8 ∧ 0 ≤ x.2.1.toInt ∧ x.2.1.toInt ≤ 784
def tgM (C : Co) (m : Mt) : Bs := fun q => (m q).isSome && decide (C.2 q 2 = 1)
def mtS (o : Nat) (s : tS) (m : Mt) : Prop := ∀ x, x < 8 → s o x = encB (m x)
def pQ (o : Nat) : Prop := 114 ≤ o ∧ o ≤ 117
def PMs (C : Co) (s0 s : tS) (m : Mt) (x : Bx) : Prop := mtS 115 s m ∧ mtS 116 s x.2.2 ∧ s 114 4 = x.1 ∧ s 114 5 = x.2.1 ∧ Fr pQ s0 s
def mtOk (m : Mt) : Prop := ∀ x y, m x = some y → y < 8
def doneX (C : Co) (k b : Nat) (m : Mt) (many gaps : Int32) : Bx := (many + Int32.ofInt (cM C k b (tgM C m)).1, gaps + Int32.ofInt (cM C k b (tgM C m)).2, rM C k b (tgM C m) m)
def dfsX (C : Co) (k b : Nat) (m : Mt) (many gaps : Int32) (x : Bx) : Bx := if valB x < 1000 * many.toInt - gaps.toInt + wM C k b (tgM C m) then doneX C k b m many gaps else x
theorem ofI_toInt {z : Int} (h1 : -2147483648 ≤ z) (h2 : z < 2147483648) : (Int32.ofInt z).toInt = z := by
  rw [Int32.toInt_ofInt]
  exact i_bm h1 h2
theorem pr_tg {m : Mt} {b q : Nat} (h : cp C b q = true) (hb : m b = none) : tgM C (prM m b q) = stB (tgM C m) q := by
  funext x
  have hc := cp_of h
  unfold tgM prM stB
  by_cases e : x = q
  · subst e
    rw [up1_eq, if_pos rfl, hc.2.1]
    rfl
  · rw [up1_ne e, if_neg e]
    by_cases e2 : x = b
    · subst e2
      show _ = ((m x).isSome && decide (C.2 x 2 = 1))
      rw [up1_eq, hb]
      have : ¬ C.2 x 2 = 1 := by rw [hc.1]; decide
      rw [decide_eq_false this, Bool.and_false, Bool.and_false]
    · rw [up1_ne e2]
theorem enc_no {x : Option Nat} (h : ∀ d, x = some d → d < 8) : (encB x = -1) = (x.isSome = false) := by
  rw [enc_m1 h]
  cases x with
  | none => exact propext ⟨fun _ => rfl, fun _ => rfl⟩
  | some d => exact propext ⟨fun h => (by cases h), fun h => (by cases h)⟩
/-- what holds of those that are put so far, ahead of a boy -/
def mtP (C : Co) (b : Nat) (m : Mt) : Prop := mtOk m ∧ ∀ x, b ≤ x → C.2 x 2 = 0 → m x = none
theorem mtP_s {b : Nat} {m : Mt} (h : mtP C b m) : mtP C (b + 1) m := ⟨h.1, fun x hx hs => h.2 x (by omega) hs⟩
theorem mtP_p {b q : Nat} {m : Mt} (h : mtP C b m) (hb : b < 8) (hq : q < 8) (hc : cp C b q = true) : mtP C (b + 1) (prM m b q) := by
  have hcc := cp_of hc
  refine ⟨fun x y hy => ?_, fun x hx hs => ?_⟩
  · unfold prM at hy
    by_cases e : x = q
    · subst e
      rw [up1_eq] at hy
      have := Option.some.inj hy
      omega
    · rw [up1_ne e] at hy
      by_cases e2 : x = b
      · subst e2
        rw [up1_eq] at hy
        have := Option.some.inj hy
        omega
      · rw [up1_ne e2] at hy
        exact h.1 x y hy
  · unfold prM
    by_cases e : x = q
    · subst e
      rw [hcc.2.1] at hs
      exact absurd hs (by decide)
    · rw [up1_ne e, up1_ne (by omega)]
      exact h.2 x (by omega) hs
theorem c_leaf {s0 : tS} {m : Mt} {x : Bx} {many gaps : Int32} (h : PMs C s0 s m x) (hx : okX x) (h1 : 0 ≤ many.toInt ∧ many.toInt ≤ 8) (h2 : 0 ≤ gaps.toInt ∧ gaps.toInt ≤ 784) : ∃ s', p7_matchFrom_J17 (ob g 114) many gaps (mm g s l r) = some (mm g s' l r) ∧ PMs C s0 s' m (if valB x < 1000 * many.toInt - gaps.toInt then (many, gaps, m) else x) := by
  obtain ⟨a1, a2, a3, a4, a5⟩ := h
  obtain ⟨x1, x2, x3, x4⟩ := hx
  have take : ∃ s', p7_matchFrom_J41 (ob g 114) many gaps (mm g s l r) = some (mm g s' l r) ∧ PMs C s0 s' m (many, gaps, m) := by
    have ec : ∀ {s : tS}, cpyI (mm g s l r) (ob g 115) 0 (ob g 116) 0 8 = some (mm g (cpy s 115 116 0 0 8) l r) := mm_cpyI (sp := 0) (dp := 0) (n := 8) k115 k116 (by rw [n115]; omega) (by rw [n116]; omega) (by rw [n115]; omega) (by rw [n116]; omega)
    have cn : ∀ {s : tS} {o : Nat}, o ≠ 116 → cpy s 115 116 0 0 8 o = s o := fun h => up1_ne h
    have cv : ∀ {s : tS} {y : Nat}, y < 8 → cpy s 115 116 0 0 8 116 y = s 115 y := fun {s y} h => by
      have : cpy s 115 116 0 0 8 116 = fun k => if 0 ≤ k ∧ k < 0 + 8 then s 115 (0 + (k - 0)) else s 116 k := up1_eq
      rw [this]
      show (if 0 ≤ y ∧ y < 0 + 8 then s 115 (0 + (y - 0)) else s 116 y) = _
      rw [if_pos (by omega), show 0 + (y - 0) = y by omega]
    refine ⟨cpy (up2 (up2 s 114 4 many) 114 5 gaps) 115 116 0 0 8, ?_, fun y hy => ?_, fun y hy => ?_, ?_, ?_, ?_⟩
    · simp only [p7_matchFrom_J41, z_P, obs, z_R1, z_R2, d2_len, ec, p7_matchFrom_J69]
    · rw [cn (by decide), up2_ne (by omega), up2_ne (by omega)]
      exact a1 y hy
    · show cpy _ 115 116 0 0 8 116 y = encB (m y)
      rw [cv hy, up2_ne (by omega), up2_ne (by omega)]
      exact a1 y hy
    · rw [cn (by decide), up2_ne (by omega), up2_eq]
    · rw [cn (by decide), up2_eq]
    · exact a5.trans (((Fr.up (by unfold pQ; omega)).trans (Fr.up (by unfold pQ; omega))).trans (fun o ho => cn (fun e => ho (by rw [e]; unfold pQ; omega))))
  by_cases c1 : x.1 < many
  · have := i_ltI.mp c1
    rw [if_pos (by unfold valB; omega)]
    obtain ⟨s', e1, P1⟩ := take
    refine ⟨s', ?_, P1⟩
    rw [← e1]
    simp only [p7_matchFrom_J17, z_I, obs, a3, c1, if_true]
  · have n1 : ¬ x.1.toInt < many.toInt := fun h => c1 (i_ltI.mpr h)
    by_cases c2 : many = x.1
    · have c2' : (many = x.1) = True := eq_true c2
      by_cases c3 : gaps < x.2.1
      · have := i_ltI.mp c3
        rw [if_pos (by unfold valB; rw [c2]; omega)]
        obtain ⟨s', e1, P1⟩ := take
        refine ⟨s', ?_, P1⟩
        rw [← e1]
        simp only [p7_matchFrom_J17, z_I, obs, a3, a4, c1, if_false, c2', if_true, c3]
      · have n3 : ¬ gaps.toInt < x.2.1.toInt := fun h => c3 (i_ltI.mpr h)
        rw [if_neg (by unfold valB; rw [c2]; omega)]
        refine ⟨s, ?_, a1, a2, a3, a4, a5⟩
        simp only [p7_matchFrom_J17, z_I, obs, a3, a4, c1, if_false, c2', if_true, c3, p7_matchFrom_J69]
    · have n2 : ¬ many.toInt = x.1.toInt := fun h => c2 (i_ext h)
      rw [if_neg (by unfold valB; omega)]
      refine ⟨s, ?_, a1, a2, a3, a4, a5⟩
      simp only [p7_matchFrom_J17, z_I, obs, a3, a4, c1, if_false, c2, p7_matchFrom_J69]
end
