section
variable {g : Nat} {s : tS} {l : tL} {r : Nat → Nat} {C : Co} {G : Lg} {L : Lw}
/-! MATCH in the class: the search -/
theorem pm_pr {s0 : tS} {m : Mt} {x : Bx} {b q : Nat} (h : PMs C s0 s m x) (hn : b ≠ q) : PMs C s0 (up2 (up2 s 115 b (Int32.ofNat q)) 115 q (Int32.ofNat b)) (prM m b q) x := by
  obtain ⟨a1, a2, a3, a4, a5⟩ := h
  refine ⟨fun y hy => ?_, fun y hy => ?_, ?_, ?_, a5.trans ((Fr.up (by unfold pQ; omega)).trans (Fr.up (by unfold pQ; omega)))⟩
  · unfold prM
    by_cases e : y = q
    · subst e
      rw [up2_eq, up1_eq]
      rfl
    · rw [up2_ne (by omega), up1_ne e]
      by_cases e2 : y = b
      · subst e2
        rw [up2_eq, up1_eq]
        rfl
      · rw [up2_ne (by omega), up1_ne e2]
        exact a1 y hy
  · rw [up2_ne (by omega), up2_ne (by omega)]
    exact a2 y hy
  · rw [up2_ne (by omega), up2_ne (by omega)]
    exact a3
  · rw [up2_ne (by omega), up2_ne (by omega)]
    exact a4
theorem pm_un {s0 : tS} {m : Mt} {x : Bx} {b q : Nat} (h : PMs C s0 s (prM m b q) x) (hb : m b = none) (hq : m q = none) : PMs C s0 (up2 (up2 s 115 b (-1)) 115 q (-1)) m x := by
  obtain ⟨a1, a2, a3, a4, a5⟩ := h
  refine ⟨fun y hy => ?_, fun y hy => ?_, ?_, ?_, a5.trans ((Fr.up (by unfold pQ; omega)).trans (Fr.up (by unfold pQ; omega)))⟩
  · by_cases e : y = q
    · subst e
      rw [up2_eq, hq]
      rfl
    · rw [up2_ne (by omega)]
      by_cases e2 : y = b
      · subst e2
        rw [up2_eq, hb]
        rfl
      · rw [up2_ne (by omega), a1 y hy]
        unfold prM
        rw [up1_ne e, up1_ne e2]
  · rw [up2_ne (by omega), up2_ne (by omega)]
    exact a2 y hy
  · rw [up2_ne (by omega), up2_ne (by omega)]
    exact a3
  · rw [up2_ne (by omega), up2_ne (by omega)]
    exact a4
theorem c_dfs (hC : VC C) {s0 : tS} (h0 : Is s0 2 C) : ∀ k d b s m x many gaps, b + k = sz C → k < d → PMs C s0 s m x → mtP C b m → okX x → 0 ≤ many.toInt ∧ many.toInt ≤ (b : Int) → 0 ≤ gaps.toInt ∧ gaps.toInt ≤ 98 * (b : Int) → ∃ s', grp2 d (ob g 114) (Int32.ofNat b) many gaps (mm g s l r) = some (mm g s' l r) ∧ PMs C s0 s' m (dfsX C k b m many gaps x) := by
  have h8 := hC.1.2
  intro k
  induction k with
  | zero =>
    intro d b s m x many gaps hk hd hP hm hx h1 h2
    obtain ⟨d, rfl⟩ : ∃ n, d = n + 1 := ⟨d - 1, by omega⟩
    obtain ⟨s', e1, P1⟩ := c_leaf (g := g) (l := l) (r := r) hP hx (show 0 ≤ many.toInt ∧ many.toInt ≤ 8 by omega) (show 0 ≤ gaps.toInt ∧ gaps.toInt ≤ 784 by omega)
    have I2 : Is s 2 C := h0.fr hP.2.2.2.2 (fun o ho => by unfold pQ at ho; omega)
    have ex : dfsX C 0 b m many gaps x = if valB x < 1000 * many.toInt - gaps.toInt then (many, gaps, m) else x := by
      unfold dfsX
      have e0 : doneX C 0 b m many gaps = (many, gaps, m) := by
        show (many + Int32.ofInt 0, gaps + Int32.ofInt 0, m) = _
        have z : Int32.ofInt 0 = 0 := rfl
        rw [z, Int32.add_zero, Int32.add_zero]
      have w0 : wM C 0 b (tgM C m) = 0 := rfl
      rw [e0, w0, Int.add_zero]
    rw [ex]
    refine ⟨s', ?_, P1⟩
    have nb : ¬ Int32.ofNat b < C.1 0 := fun c => by
      have := (zc_lt hC.1 (by omega)).mp c
      omega
    show p7_matchFrom_B (grp2 d) (ob g 114) (Int32.ofNat b) many gaps (mm g s l r) = _
    by_cases c8 : Int32.ofNat b < 8
    · simp only [p7_matchFrom_B, z_gd, c8, if_true, z_R0, obs, c_n I2, nb, if_false, e1]
    · simp only [p7_matchFrom_B, z_gd, c8, if_false, e1]
  | succ k ih =>
    intro d b s m x many gaps hk hd hP hm hx h1 h2
    obtain ⟨d, rfl⟩ : ∃ n, d = n + 1 := ⟨d - 1, by omega⟩
    have hb : b < sz C := by omega
    have I2 : Is s 2 C := h0.fr hP.2.2.2.2 (fun o ho => by unfold pQ at ho; omega)
    have es := c_sing (g := g) (l := l) (r := r) (x := b) (so := 0) I2 (by omega)
    have last : ∀ s x, PMs C s0 s m x → okX x → ∃ s', p7_matchFrom_J182 (grp2 d) (ob g 114) (Int32.ofNat b) many gaps (mm g s l r) = some (mm g s' l r) ∧ PMs C s0 s' m (dfsX C k (b + 1) m many gaps x) := fun s x hP hx => by
      obtain ⟨s', e1, P1⟩ := ih d (b + 1) s m x many gaps (by omega) (by omega) hP (mtP_s hm) hx (by omega) (by omega)
      refine ⟨s', ?_, P1⟩
      simp only [p7_matchFrom_J182, i_succ, e1, obs]
    show ∃ s', p7_matchFrom_B (grp2 d) (ob g 114) (Int32.ofNat b) many gaps (mm g s l r) = _ ∧ _
    by_cases hs : C.2 b 2 = 0 ∧ C.2 b 4 = -1
    · have hd1 : decide (b < sz C ∧ C.2 b 2 = 0 ∧ C.2 b 4 = -1) = true := decide_eq_true ⟨hb, hs⟩
      rw [hd1] at es
      have mb : m b = none := hm.2 b (Nat.le_refl _) hs.1
      have V0 : ∀ i x, i < sz C → okX x → ¬ (cp C b i && !tgM C m i) = true → (if valB x < 1000 * many.toInt - gaps.toInt + ovM' C (wM C k (b + 1)) b (tgM C m) i then cmX C k b m many gaps i else x) = x := fun i x hi hx hn => by
        have ev : ovM' C (wM C k (b + 1)) b (tgM C m) i = -1000000 := by
          unfold ovM'
          rw [if_neg (by omega), if_neg hn]
        rw [ev]
        refine if_neg ?_
        obtain ⟨a1, a2, a3, a4⟩ := hx
        unfold valB
        omega
      have key : ∃ s', p7_matchFrom_L82 (grp2 d) (p7_matchFrom_J182 (grp2 d)) gF (ob g 114) (Int32.ofNat b) many gaps 0 (mm g s l r) = p7_matchFrom_J182 (grp2 d) (ob g 114) (Int32.ofNat b) many gaps (mm g s' l r) ∧ PMs C s0 s' m (itF (fun i x => if i < sz C then (if valB x < 1000 * many.toInt - gaps.toInt + ovM' C (wM C k (b + 1)) b (tgM C m) i then cmX C k b m many gaps i else x) else x) 8 0 x) ∧ okX (itF (fun i x => if i < sz C then (if valB x < 1000 * many.toInt - gaps.toInt + ovM' C (wM C k (b + 1)) b (tgM C m) i then cmX C k b m many gaps i else x) else x) 8 0 x) := by
        refine it_sf (L := fun n (a : tS) i => p7_matchFrom_L82 (grp2 d) (p7_matchFrom_J182 (grp2 d)) n (ob g 114) (Int32.ofNat b) many gaps i (mm g a l r)) (R := fun _ a x => PMs C s0 a m x ∧ okX x) (f := fun i x => if i < sz C then (if valB x < 1000 * many.toInt - gaps.toInt + ovM' C (wM C k (b + 1)) b (tgM C m) i then cmX C k b m many gaps i else x) else x) (Q := fun B x => ∃ s', B = p7_matchFrom_J182 (grp2 d) (ob g 114) (Int32.ofNat b) many gaps (mm g s' l r) ∧ PMs C s0 s' m x ∧ okX x) (N := 8) (fun n i a x hi hR => ?_) (fun n a x hR => ?_) 8 gF 0 s x (by omega) (gF_gt (by omega)) ⟨hP, hx⟩
        · obtain ⟨hPa, hxa⟩ := hR
          have Ia : Is a 2 C := h0.fr hPa.2.2.2.2 (fun o ho => by unfold pQ at ho; omega)
          have eg := c_sing (g := g) (l := l) (r := r) (x := i) (so := 1) Ia hi
          by_cases hg : i < sz C ∧ C.2 i 2 = 1 ∧ C.2 i 4 = -1
          · rw [decide_eq_true hg] at eg
            have hi' := hg.1
            have em : a 115 i = encB (m i) := hPa.1 i hi
            have en := enc_no (fun d hd => hm.1 i d hd)
            have et : tgM C m i = (m i).isSome := by
              unfold tgM
              rw [decide_eq_true hg.2.1, Bool.and_true]
            have emy := c_may (g := g) (l := l) (r := r) Ia hb hi'
            rw [may_cp hs hg.2] at emy
            have e8 : Int32.ofNat i < 8 := lt8 hi
            cases hmi : (m i).isSome with
            | true =>
              have hv : ¬ (cp C b i && !tgM C m i) = true := by
                rw [et, hmi]
                simp
              refine ⟨a, ⟨?_, ?_⟩, ?_⟩
              · show PMs C s0 a m (if i < sz C then _ else x)
                rw [if_pos hi', V0 i x hi' hxa hv]
                exact hPa
              · show okX (if i < sz C then _ else x)
                rw [if_pos hi', V0 i x hi' hxa hv]
                exact hxa
              · have en' : (encB (m i) = -1) = False := by
                  rw [en, hmi]
                  exact eq_false (by decide)
                simp only [p7_matchFrom_L82, e8, if_true, eg, ib_t, obs, one_z, if_false, z_R1, d1_ld hi, em, en', p7_matchFrom_J176, i_succ]
            | false =>
              have en' : (encB (m i) = -1) = True := by
                rw [en, hmi]
                exact eq_true rfl
              have mi : m i = none := by
                cases hh : m i with
                | none => rfl
                | some z => rw [hh] at hmi; cases hmi
              cases hcp : cp C b i with
              | false =>
                rw [hcp] at emy
                have hv : ¬ (cp C b i && !tgM C m i) = true := by
                  rw [hcp]
                  simp
                refine ⟨a, ⟨?_, ?_⟩, ?_⟩
                · show PMs C s0 a m (if i < sz C then _ else x)
                  rw [if_pos hi', V0 i x hi' hxa hv]
                  exact hPa
                · show okX (if i < sz C then _ else x)
                  rw [if_pos hi', V0 i x hi' hxa hv]
                  exact hxa
                · simp only [p7_matchFrom_L82, e8, if_true, eg, ib_t, obs, one_z, if_false, z_R1, d1_ld hi, em, en', z_R0, emy, ib_f, p7_matchFrom_J176, i_succ]
              | true =>
                rw [hcp] at emy
                have P1 := pm_pr hPa (cp_ne hcp)
                have I1 : Is (up2 (up2 a 115 b (Int32.ofNat i)) 115 i (Int32.ofNat b)) 2 C := h0.fr P1.2.2.2.2 (fun o ho => by unfold pQ at ho; omega)
                have hg1 := gap_b hC hb hi'
                have a1 := up_1 (many := many) (b := b) (by omega) h1
                have a2 := up_g hC (gaps := gaps) hb hi' h2
                obtain ⟨s2, e2, P2⟩ := ih d (b + 1) _ (prM m b i) x (many + 1) (gaps + gapF C b i) (by omega) (by omega) P1 (mtP_p hm (by omega) hi hcp) hxa (by omega) (by omega)
                have P3 := pm_un P2 mb mi
                have ex : (if i < sz C then (if valB x < 1000 * many.toInt - gaps.toInt + ovM' C (wM C k (b + 1)) b (tgM C m) i then cmX C k b m many gaps i else x) else x) = dfsX C k (b + 1) (prM m b i) (many + 1) (gaps + gapF C b i) x := by
                  rw [if_pos hi']
                  have ev : ovM' C (wM C k (b + 1)) b (tgM C m) i = 1000 - gI C b i + wM C k (b + 1) (stB (tgM C m) i) := by
                    unfold ovM'
                    rw [if_neg (by omega), hcp, et, hmi]
                    exact if_pos rfl
                  have ec : cmX C k b m many gaps i = doneX C k (b + 1) (prM m b i) (many + 1) (gaps + gapF C b i) := if_neg (by omega)
                  unfold dfsX
                  rw [ev, ec, pr_tg hcp mb, a1, a2, show 1000 * many.toInt - gaps.toInt + (1000 - gI C b i + wM C k (b + 1) (stB (tgM C m) i)) = 1000 * (many.toInt + 1) - (gaps.toInt + gI C b i) + wM C k (b + 1) (stB (tgM C m) i) by omega]
                refine ⟨up2 (up2 s2 115 b (-1)) 115 i (-1), ⟨?_, ?_⟩, ?_⟩
                · show PMs C s0 _ m (if i < sz C then _ else x)
                  rw [ex]
                  exact P3
                · show okX (if i < sz C then _ else x)
                  rw [ex]
                  exact dfs_ok hC (by omega) (by omega) (by omega) hxa
                · simp only [p7_matchFrom_L82, e8, if_true, eg, ib_t, obs, one_z, if_false, z_R1, d1_ld hi, em, en', z_R0, emy, d1_st (show b < 8 by omega), d1_st hi, c_gap I1 hb hi', i_succ, e2, p7_matchFrom_J176]
          · rw [decide_eq_false hg] at eg
            have e8 : Int32.ofNat i < 8 := lt8 hi
            have ex : (if i < sz C then (if valB x < 1000 * many.toInt - gaps.toInt + ovM' C (wM C k (b + 1)) b (tgM C m) i then cmX C k b m many gaps i else x) else x) = x := by
              by_cases hi' : i < sz C
              · rw [if_pos hi']
                refine V0 i x hi' hxa (fun h => ?_)
                rw [Bool.and_eq_true] at h
                have := cp_of h.1
                exact hg ⟨hi', this.2.1, this.2.2.2.1⟩
              · rw [if_neg hi']
            refine ⟨a, ⟨?_, ?_⟩, ?_⟩
            · show PMs C s0 a m (if i < sz C then _ else x)
              rw [ex]
              exact hPa
            · show okX (if i < sz C then _ else x)
              rw [ex]
              exact hxa
            · simp only [p7_matchFrom_L82, e8, if_true, eg, ib_f, obs, p7_matchFrom_J176, i_succ]
        · refine ⟨a, ?_, hR⟩
          simp only [p7_matchFrom_L82, lt8_n, if_false]
      obtain ⟨s2, e2, P2, x2⟩ := key
      obtain ⟨s3, e3, P3⟩ := last s2 _ P2 x2
      refine ⟨s3, ?_, ?_⟩
      · simp only [p7_matchFrom_B, z_gd, lt8_y (show b < 8 by omega), if_true, z_R0, obs, c_n I2, zc_yes hC.1 hb, es, ib_t, one_z, if_false, e2, e3]
      · have f8 : itF (fun i x => if i < sz C then (if valB x < 1000 * many.toInt - gaps.toInt + ovM' C (wM C k (b + 1)) b (tgM C m) i then cmX C k b m many gaps i else x) else x) 8 0 x = itF (fun i x => if i < sz C then (if valB x < 1000 * many.toInt - gaps.toInt + ovM' C (wM C k (b + 1)) b (tgM C m) i then cmX C k b m many gaps i else x) else x) (sz C) 0 x := by
          have e : 8 = sz C + (8 - sz C) := by omega
          rw [e, itF_add]
          exact itF_id _ _ (fun j h1 h2 => if_neg (by omega))
        rw [f8] at P3
        rw [← dfs_eq (f := fun i x => if i < sz C then (if valB x < 1000 * many.toInt - gaps.toInt + ovM' C (wM C k (b + 1)) b (tgM C m) i then cmX C k b m many gaps i else x) else dfsX C k (b + 1) m many gaps x) hC hk hm h1 h2 hs.1 hx (fun i x hi hx => ?_)]
        · rw [itF_add, Nat.zero_add]
          show PMs C s0 s3 m (if sz C < sz C then _ else dfsX C k (b + 1) m many gaps _)
          rw [if_neg (by omega)]
          have e9 : ∀ n i x, i + n ≤ sz C → itF (fun i x => if i < sz C then (if valB x < 1000 * many.toInt - gaps.toInt + ovM' C (wM C k (b + 1)) b (tgM C m) i then cmX C k b m many gaps i else x) else dfsX C k (b + 1) m many gaps x) n i x = itF (fun i x => if i < sz C then (if valB x < 1000 * many.toInt - gaps.toInt + ovM' C (wM C k (b + 1)) b (tgM C m) i then cmX C k b m many gaps i else x) else x) n i x := by
            intro n
            induction n with
            | zero => intro i x _; rfl
            | succ n ihn =>
              intro i x h
              show itF _ n (i + 1) (if i < sz C then _ else _) = itF _ n (i + 1) (if i < sz C then _ else _)
              rw [if_pos (show i < sz C by omega), if_pos (show i < sz C by omega)]
              exact ihn (i + 1) _ (by omega)
          rw [e9 (sz C) 0 x (by omega)]
          exact P3
        · by_cases hi' : i < sz C
          · show (if i < sz C then _ else _) = _
            rw [if_pos hi']
          · have ei : i = sz C := by omega
            subst ei
            show (if sz C < sz C then _ else _) = _
            rw [if_neg hi']
            have ev : ovM' C (wM C k (b + 1)) b (tgM C m) (sz C) = wM C k (b + 1) (tgM C m) := if_pos rfl
            have ec : cmX C k b m many gaps (sz C) = doneX C k (b + 1) m many gaps := if_pos rfl
            rw [ev, ec]
            rfl
    · have hd1 : decide (b < sz C ∧ C.2 b 2 = 0 ∧ C.2 b 4 = -1) = false := decide_eq_false (fun h => hs h.2)
      rw [hd1] at es
      obtain ⟨s3, e3, P3⟩ := last s x hP hx
      obtain ⟨n1, n2⟩ := no_cp (k := k) (T := tgM C m) hC hb (fun q _ => by
        cases h : cp C b q with
        | false => rfl
        | true =>
          have := cp_of h
          exact absurd ⟨this.1, this.2.2.1⟩ hs)
      have ex : dfsX C (k + 1) b m many gaps x = dfsX C k (b + 1) m many gaps x := by
        unfold dfsX doneX
        rw [n2]
        simp only [cM, rM, if_pos n1]
      rw [ex]
      refine ⟨s3, ?_, P3⟩
      simp only [p7_matchFrom_B, z_gd, lt8_y (show b < 8 by omega), if_true, z_R0, obs, c_n I2, zc_yes hC.1 hb, es, ib_f, e3]
def noM : Mt := fun _ => none
def bestM (C : Co) : Mt := rM C (sz C) 0 (fun _ => false) noM
theorem tg_no : tgM C noM = fun _ => false := rfl
/-- where nobody can be put to anybody, nobody is -/
theorem rM_0 (hC : VC C) : ∀ k b T m, b + k = sz C → wM C k b T = 0 → rM C k b T m = m ∧ cM C k b T = (0, 0) := by
  intro k
  induction k with
  | zero => intro b T m _ _; exact ⟨rfl, rfl⟩
  | succ k ih =>
    intro b T m h hw
    obtain ⟨f1, f2, f3, f4⟩ := fsM_ok (k := k) (T := T) hC (show b < sz C by omega)
    by_cases e : fsM C k b T = sz C
    · rw [e] at f1
      have : wM C k (b + 1) T = 0 := by
        rw [← hw, ← f1]
        exact (if_pos rfl).symm
      simp only [rM, cM, if_pos e]
      exact ih (b + 1) T m (by omega) this
    · exfalso
      obtain ⟨c1, c2⟩ := f4 e
      have hg := gap_b hC (show b < sz C by omega) (show fsM C k b T < sz C by omega)
      have hn := wM_nn (C := C) k (b + 1) (stB T (fsM C k b T))
      have ev : ovM' C (wM C k (b + 1)) b T (fsM C k b T) = 1000 - gI C b (fsM C k b T) + wM C k (b + 1) (stB T (fsM C k b T)) := by
        unfold ovM'
        rw [if_neg e, c1, c2]
        exact if_pos rfl
      omega
theorem c_fill8 {o : Nat} {v : Int32} (hk : lK o = 20) (hn : lNn o = 8) : pJ7_fill (ob g o) v (mm g s l r) = some (mm g (flS s o 8 v) l r) := by
  have hl : lenA (mm g s l r) (ob g o) = some 8 := by rw [mm_lenA (by rw [hk]; decide), hn]; rfl
  rw [pJ7_fill, hl, obs]
  refine it_up (fun m (a : tS) i => pJ7_fill_L5 m (ob g o) v i 8 (mm g a l r)) 8 (fun i a => up2 a o i v) (fun a => some (mm g a l r)) (fun m i a hi => ?_) (fun m a => ?_) gF s (gF_gt (by omega))
  · have : astI (mm g a l r) (ob g o) (Int32.ofNat i) v = some (mm g (up2 a o i v) l r) := mm_astI hk hn hi (by decide)
    simp only [pJ7_fill_L5, lt8_y hi, if_true, this, obs, i_succ]
  · simp only [pJ7_fill_L5, lt8_n, if_false]
theorem c_best (hC : VC C) (h0 : Is s 2 C) : ∃ s', p7_bestMatching (ob g 114) (mm g s l r) = some (mm g s' l r) ∧ mtS 116 s' (bestM C) ∧ (s' 114 4).toInt = (cM C (sz C) 0 (fun _ => false)).1 ∧ (s' 114 5).toInt = (cM C (sz C) 0 (fun _ => false)).2 ∧ Fr pQ s s' := by
  have h8 := hC.1.2
  have f1 := c_fill8 (g := g) (s := s) (l := l) (r := r) (v := -1) k115 n115
  have f2 := c_fill8 (g := g) (s := flS s 115 8 (-1)) (l := l) (r := r) (v := -1) k116 n116
  have P0 : PMs C s (up2 (up2 (flS (flS s 115 8 (-1)) 116 8 (-1)) 114 4 0) 114 5 0) noM (0, 0, noM) := by
    refine ⟨fun y hy => ?_, fun y hy => ?_, ?_, up2_eq, ?_⟩
    · rw [up2_ne (by omega), up2_ne (by omega), flS_o (by decide), flS_v, if_pos hy]
      rfl
    · rw [up2_ne (by omega), up2_ne (by omega), flS_v, if_pos hy]
      rfl
    · rw [up2_ne (by omega), up2_eq]
    · exact ((flS_fr.mono (fun o ho => by unfold pQ; omega)).trans (flS_fr.mono (fun o ho => by unfold pQ; omega))).trans ((Fr.up (by unfold pQ; omega)).trans (Fr.up (by unfold pQ; omega)))
  have z0 : (0 : Int32).toInt = 0 := rfl
  obtain ⟨s', e1, P1⟩ := c_dfs (g := g) (l := l) (r := r) hC h0 (sz C) 64 0 _ noM (0, 0, noM) 0 0 (by omega) (by omega) P0 ⟨fun x y h => (by cases h), fun _ _ _ => rfl⟩ ⟨by show 0 ≤ (0 : Int32).toInt; omega, by show (0 : Int32).toInt ≤ 8; omega, by show 0 ≤ (0 : Int32).toInt; omega, by show (0 : Int32).toInt ≤ 784; omega⟩ (by omega) (by omega)
  have hw := wM_nn (C := C) (sz C) 0 (fun _ => false)
  have ed := done_ok hC (k := sz C) (b := 0) (m := noM) (many := 0) (gaps := 0) (by omega) (by omega) (by omega)
  have e1 : p7_matchFrom (ob g 114) 0 0 0 (mm g (up2 (up2 (flS (flS s 115 8 (-1)) 116 8 (-1)) 114 4 0) 114 5 0) l r) = some (mm g s' l r) := e1
  have fin : mtS 116 s' (bestM C) ∧ (s' 114 4).toInt = (cM C (sz C) 0 (fun _ => false)).1 ∧ (s' 114 5).toInt = (cM C (sz C) 0 (fun _ => false)).2 := by
    by_cases c : wM C (sz C) 0 (fun _ => false) = 0
    · obtain ⟨r1, r2⟩ := rM_0 hC (sz C) 0 (fun _ => false) noM (by omega) c
      have ex : dfsX C (sz C) 0 noM 0 0 (0, 0, noM) = (0, 0, noM) := by
        unfold dfsX
        rw [tg_no, c]
        exact if_neg (by decide)
      rw [ex] at P1
      obtain ⟨-, a2, a3, a4, -⟩ := P1
      refine ⟨?_, ?_, ?_⟩
      · unfold bestM
        rw [r1]
        exact a2
      · rw [a3, r2]
        rfl
      · rw [a4, r2]
        rfl
    · have ex : dfsX C (sz C) 0 noM 0 0 (0, 0, noM) = doneX C (sz C) 0 noM 0 0 := by
        unfold dfsX
        rw [tg_no]
        refine if_pos ?_
        show 1000 * (0 : Int32).toInt - (0 : Int32).toInt < 1000 * (0 : Int32).toInt - (0 : Int32).toInt + wM C (sz C) 0 (fun _ => false)
        omega
      rw [ex] at P1
      obtain ⟨-, a2, a3, a4, -⟩ := P1
      refine ⟨a2, ?_, ?_⟩
      · rw [a3, ed.2.2.1, z0, tg_no]
        omega
      · rw [a4, ed.2.2.2, z0, tg_no]
        omega
  refine ⟨s', ?_, fin.1, fin.2.1, fin.2.2, P1.2.2.2.2⟩
  simp only [p7_bestMatching, z_gd, z_R1, z_R2, obs, f1, f2, z_P, e1]
end
