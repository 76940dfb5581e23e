section
variable {g : Nat} {s : tS} {l : tL} {r : Nat → Nat} {C : Co} {G : Lg} {L : Lw}
/-! STABLE in the class -/
theorem itF_congr {σ : Type} {f f' : Nat → σ → σ} : ∀ k i x, (∀ j x, i ≤ j → j < i + k → f j x = f' j x) → itF f k i x = itF f' k i x := by
  intro k
  induction k with
  | zero => intro i x _; rfl
  | succ k ih =>
    intro i x h
    show itF f k (i + 1) (f i x) = itF f' k (i + 1) (f' i x)
    rw [h i x (by omega) (by omega)]
    exact ih (i + 1) _ (fun j x h1 h2 => h j x (by omega) (by omega))
theorem itF_if {σ : Type} {F : Nat → σ → σ} {n N : Nat} {x : σ} (h : n ≤ N) : itF (fun i x => if i < n then F i x else x) N 0 x = itF F n 0 x := by
  obtain ⟨m, rfl⟩ : ∃ m, N = n + m := ⟨N - n, by omega⟩
  rw [itF_add]
  refine (itF_id m (0 + n) (fun j h1 h2 => ?_)).trans (itF_congr n 0 x (fun j x h1 h2 => ?_))
  · exact if_neg (show ¬ j < n by omega)
  · exact if_pos (show j < n by omega)
theorem d3_ld {k : Nat} (hk : k < 8) : aldI (mm g s l r) (ob g 117) 20 (Int32.ofNat k) = some (s 117 k) := mm_aldI k117 n117 hk (by decide)
theorem d3_st {k : Nat} {v : Int32} (hk : k < 8) : astI (mm g s l r) (ob g 117) (Int32.ofNat k) v = some (mm g (up2 s 117 k v) l r) := mm_astI k117 n117 hk (by decide)
theorem d3_len : lenA (mm g s l r) (ob g 117) = some 8 := by rw [mm_lenA (by rw [k117]; decide), n117]; rfl
theorem tz_tab : ∀ m, m < 256 → ∀ i, i < 8 → decide (((Int32.ofNat m >>> (Int32.ofNat i &&& 31)) &&& 1) = 0) = !m.testBit i := by decide +kernel
theorem rb_z {x : Int32} {f : Bs} (h : rb x f) {i : Nat} (hi : i < 8) : (((x >>> (Int32.ofNat i &&& 31)) &&& 1) = 0) = (f i = false) := by
  obtain ⟨m, h1, rfl, h3⟩ := h
  have := tz_tab m h1 i hi
  rw [h3] at this
  cases hf : f i with
  | false =>
    rw [hf] at this
    exact propext ⟨fun _ => rfl, fun _ => of_decide_eq_true this⟩
  | true =>
    rw [hf] at this
    exact propext ⟨fun h => absurd h (of_decide_eq_false this), fun h => (by cases h)⟩
theorem c_near {b : Nat} {f : Bs} (h : Is s 2 C) (hb : b < sz C) (sb : C.2 b 2 = 0 ∧ C.2 b 4 = -1) (hf : rb (s 117 b) f) : p7_nearestNotAsked (ob g 114) (Int32.ofNat b) (mm g s l r) = some (encB (nrV C b f)) := by
  have hz := h.2.1
  have b8 := zc_8 hz hb
  have key : p7_nearestNotAsked_L4 (mm g s l r) gF (ob g 114) (Int32.ofNat b) (-1) 0 = some (encB (itF (fun i x => if i < sz C then nrS C b f i x else x) 8 0 none)) := by
    refine it_sf (L := fun n (a : Int32) i => p7_nearestNotAsked_L4 (mm g s l r) n (ob g 114) (Int32.ofNat b) a i) (R := fun _ a x => a = encB x ∧ ∀ z, x = some z → z < sz C) (f := fun i x => if i < sz C then nrS C b f i x else x) (Q := fun B x => B = some (encB x)) (N := 8) (fun n i a x hi hR => ?_) (fun n a x hR => ?_) 8 gF 0 (-1) none (by omega) (gF_gt (by omega)) ⟨rfl, fun z hz => (by cases hz)⟩
    · obtain ⟨rfl, hx⟩ := hR
      have eg := c_sing (g := g) (l := l) (r := r) (x := i) (so := 1) h hi
      have l8 : Int32.ofNat i < 8 := lt8 hi
      have lb8 : Int32.ofNat b < 8 := lt8 b8
      have nb0 := ge0 (show b < 2147483648 by omega)
      by_cases hg : i < sz C ∧ C.2 i 2 = 1 ∧ C.2 i 4 = -1
      · rw [decide_eq_true hg] at eg
        have emy := c_may (g := g) (l := l) (r := r) h hb hg.1
        rw [may_cp sb hg.2] at emy
        cases hcp : cp C b i with
        | false =>
          rw [hcp] at emy
          have ex : (if i < sz C then nrS C b f i x else x) = x := by
            rw [if_pos hg.1]
            unfold nrS
            rw [hcp]
            rfl
          refine ⟨encB x, ⟨by rw [ex], by rw [ex]; exact hx⟩, ?_⟩
          simp only [p7_nearestNotAsked_L4, l8, if_true, nb0, if_false, z_R3, d3_len, obs, lb8, eg, ib_t, one_z, z_R0, emy, ib_f, p7_nearestNotAsked_J91, p7_nearestNotAsked_J85, p7_nearestNotAsked_J83, p7_nearestNotAsked, i_succ]
        | true =>
          rw [hcp] at emy
          have ez := rb_z hf hi
          cases hfi : f i with
          | true =>
            have ez' : (((s 117 b >>> (Int32.ofNat i &&& 31)) &&& 1) = 0) = False := by
              rw [ez, hfi]
              exact eq_false (by decide)
            have ex : (if i < sz C then nrS C b f i x else x) = x := by
              rw [if_pos hg.1]
              unfold nrS
              rw [hcp, hfi]
              rfl
            refine ⟨encB x, ⟨by rw [ex], by rw [ex]; exact hx⟩, ?_⟩
            simp only [p7_nearestNotAsked_L4, l8, if_true, nb0, if_false, z_R3, d3_len, obs, lb8, eg, ib_t, one_z, z_R0, emy, d3_ld b8, ez', p7_nearestNotAsked_J91, p7_nearestNotAsked_J85, p7_nearestNotAsked_J83, p7_nearestNotAsked, i_succ]
          | false =>
            have ez' : (((s 117 b >>> (Int32.ofNat i &&& 31)) &&& 1) = 0) = True := by
              rw [ez, hfi]
              exact eq_true rfl
            cases x with
            | none =>
              have ev : nrS C b f i none = some i := by
                unfold nrS
                rw [hcp, hfi]
                exact if_pos rfl
              refine ⟨Int32.ofNat i, ⟨by rw [if_pos hg.1, ev]; rfl, fun z hz => ?_⟩, ?_⟩
              · rw [if_pos hg.1, ev] at hz
                have := Option.some.inj hz
                omega
              · simp only [p7_nearestNotAsked_L4, l8, if_true, nb0, if_false, z_R3, d3_len, obs, lb8, eg, ib_t, one_z, z_R0, emy, d3_ld b8, ez', encB, p7_nearestNotAsked_J91, p7_nearestNotAsked_J85, p7_nearestNotAsked_J83, p7_nearestNotAsked, i_succ]
            | some z =>
              have hz' := hx z rfl
              have ev : nrS C b f i (some z) = if gapF C b i < gapF C b z then some i else some z := by
                unfold nrS
                rw [hcp, hfi]
                exact if_pos rfl
              by_cases cg : gapF C b i < gapF C b z
              · have ev' : nrS C b f i (some z) = some i := by rw [ev]; exact if_pos cg
                refine ⟨Int32.ofNat i, ⟨by rw [if_pos hg.1, ev']; rfl, fun w hw => ?_⟩, ?_⟩
                · rw [if_pos hg.1, ev'] at hw
                  have := Option.some.inj hw
                  omega
                · simp only [p7_nearestNotAsked_L4, l8, if_true, nb0, if_false, z_R3, d3_len, obs, lb8, eg, ib_t, one_z, z_R0, emy, d3_ld b8, ez', encB, nm1 (zc_8 hz hz'), c_gap h hb hg.1, c_gap h hb hz', cg, p7_nearestNotAsked_J91, p7_nearestNotAsked_J85, p7_nearestNotAsked_J83, p7_nearestNotAsked, i_succ]
              · have ev' : nrS C b f i (some z) = some z := by rw [ev]; exact if_neg cg
                refine ⟨Int32.ofNat z, ⟨by rw [if_pos hg.1, ev']; rfl, fun w hw => ?_⟩, ?_⟩
                · rw [if_pos hg.1, ev'] at hw
                  have := Option.some.inj hw
                  omega
                · simp only [p7_nearestNotAsked_L4, l8, if_true, nb0, if_false, z_R3, d3_len, obs, lb8, eg, ib_t, one_z, z_R0, emy, d3_ld b8, ez', encB, nm1 (zc_8 hz hz'), c_gap h hb hg.1, c_gap h hb hz', cg, p7_nearestNotAsked_J91, p7_nearestNotAsked_J85, p7_nearestNotAsked_J83, p7_nearestNotAsked, i_succ]
      · rw [decide_eq_false hg] at eg
        have ex : (if i < sz C then nrS C b f i x else x) = x := by
          by_cases hi' : i < sz C
          · rw [if_pos hi']
            unfold nrS
            rw [if_neg (fun h => ?_)]
            rw [Bool.and_eq_true] at h
            have := cp_of h.1
            exact hg ⟨hi', this.2.1, this.2.2.2.1⟩
          · rw [if_neg hi']
        refine ⟨encB x, ⟨by rw [ex], by rw [ex]; exact hx⟩, ?_⟩
        simp only [p7_nearestNotAsked_L4, l8, if_true, nb0, if_false, z_R3, d3_len, obs, lb8, eg, ib_f, p7_nearestNotAsked_J91, p7_nearestNotAsked_J85, p7_nearestNotAsked_J83, p7_nearestNotAsked, i_succ]
    · obtain ⟨rfl, hx⟩ := hR
      simp only [p7_nearestNotAsked_L4, lt8_n, if_false, p7_nearestNotAsked_J91, p7_nearestNotAsked_J85, p7_nearestNotAsked_J83, p7_nearestNotAsked]
  rw [itF_if hz.2] at key
  rw [p7_nearestNotAsked, z_gd]
  exact key
theorem c_nearer {q b b0 : Nat} (h : Is s 2 C) (hC : VC C) (hq : q < sz C) (hb : b < sz C) (h0 : b0 < sz C) : ∃ y : Bool, p7_isNearer (ob g 114) (Int32.ofNat q) (Int32.ofNat b) (Int32.ofNat b0) (mm g s l r) = some (ib y) ∧ (y = true ↔ nrr C q b b0) := by
  have h8 := hC.1.2
  have lt := ltNN (show b < 2147483648 by omega) (show b0 < 2147483648 by omega)
  unfold nrr gI
  by_cases c1 : gapF C q b < gapF C q b0
  · refine ⟨true, ?_, fun _ => Or.inl (i_ltI.mp c1), fun _ => rfl⟩
    simp only [p7_isNearer, z_gd, z_R0, obs, c_gap h hq hb, c_gap h hq h0, c1, if_true, p7_isNearer_J46, p7_isNearer_J41, p7_isNearer_J45, p7_isNearer, bZ_1, ib_t]
  · have n1 : ¬ (gapF C q b).toInt < (gapF C q b0).toInt := fun hh => c1 (i_ltI.mpr hh)
    by_cases c2 : gapF C q b = gapF C q b0
    · have c2' : (gapF C q b = gapF C q b0) = True := eq_true c2
      by_cases c3 : b < b0
      · refine ⟨true, ?_, fun _ => Or.inr ⟨by rw [c2], c3⟩, fun _ => rfl⟩
        simp only [p7_isNearer, z_gd, z_R0, obs, c_gap h hq hb, c_gap h hq h0, c1, if_false, c2', if_true, lt, c3, p7_isNearer_J46, p7_isNearer_J41, p7_isNearer_J45, p7_isNearer, bZ_1, ib_t]
      · refine ⟨false, ?_, fun hh => (by cases hh), fun hh => by omega⟩
        simp only [p7_isNearer, z_gd, z_R0, obs, c_gap h hq hb, c_gap h hq h0, c1, if_false, c2', if_true, lt, c3, p7_isNearer_J46, p7_isNearer_J41, p7_isNearer_J45, p7_isNearer, bZ_0, ib_f]
    · have n2 : ¬ (gapF C q b).toInt = (gapF C q b0).toInt := fun hh => c2 (i_ext hh)
      refine ⟨false, ?_, fun hh => (by cases hh), fun hh => by omega⟩
      simp only [p7_isNearer, z_gd, z_R0, obs, c_gap h hq hb, c_gap h hq h0, c1, if_false, c2, p7_isNearer_J46, p7_isNearer_J41, p7_isNearer_J45, p7_isNearer, bZ_0, ib_f]
def relC (s : tS) (Z : Zt) : Prop := mtS 115 s Z.1 ∧ ∀ b, b < 8 → rb (s 117 b) (Z.2 b)
def goZ (C : Co) (Z : Zt) : Prop := SIz C Z ∧ LSz C Z
theorem rb_ak {Z : Zt} {b q : Nat} {x : Int32} (h : rb x (Z.2 b)) (hq : q < 8) : rb (x ||| bt q) (akZ Z b q b) := by
  refine rb_congr (rb_or h (rb_bt hq)) (fun j => ?_)
  unfold akZ
  by_cases e : j = q
  · rw [if_pos ⟨rfl, e⟩, decide_eq_true e, Bool.or_true]
  · rw [if_neg (fun h => e h.2), decide_eq_false e, Bool.or_false]
theorem mt_up {o : Nat} {m : Mt} {x y : Nat} {v : Option Nat} (h : mtS o s m) (hx : x < 8) : mtS o (up2 s o x (encB v)) (up1 m x v) := by
  intro y hy
  by_cases e : y = x
  · subst e
    rw [up2_eq, up1_eq]
  · rw [up2_ne (by omega), up1_ne e]
    exact h y hy
theorem mt_fr {o o' x : Nat} {m : Mt} {v : Int32} (h : mtS o s m) (hn : o' ≠ o) : mtS o (up2 s o' x v) m := fun y hy => by
  rw [up2_ne (by omega)]
  exact h y hy
/-- whom she takes -/
def tkM (m : Mt) (b q : Nat) : Mt := up1 (up1 m q (some b)) b (some q)
def tkM0 (m : Mt) (b q b0 : Nat) : Mt := up1 (tkM m b q) b0 none
theorem take_1 {Z : Zt} {b q : Nat} (h : goZ C Z) (hm : mayZ C Z b q) (h0 : Z.1 q = none) : goZ C (tkM Z.1 b q, akZ Z b q) := by
  have nbq := cp_ne hm.2.2.2.1
  refine ask_yes h.1 h.2 hm (fun b0 e => by rw [h0] at e; cases e) up1_eq ?_ (fun b0 e => by rw [h0] at e; cases e) (fun x h1 h2 _ => ?_)
  · unfold tkM
    rw [up1_ne (Ne.symm nbq), up1_eq]
  · unfold tkM
    rw [up1_ne h1, up1_ne h2]
theorem mate_ne {Z : Zt} {b q b0 : Nat} (h : SIz C Z) (hm : mayZ C Z b q) (h0 : Z.1 q = some b0) : b0 ≠ b ∧ b0 ≠ q ∧ cp C b0 q = true ∧ b0 < sz C := by
  obtain ⟨t1, t2, t3, t4⟩ := h.1 q b0 h0
  have hc : cp C b0 q = true := by
    rcases t4 with t | t
    · exact absurd hm.2.2.2.1 (cp_boy t)
    · exact t
  refine ⟨fun e => ?_, cp_ne hc, hc, t2⟩
  rw [e, hm.2.2.1] at t3
  cases t3
theorem take_2 {Z : Zt} {b q b0 : Nat} (h : goZ C Z) (hm : mayZ C Z b q) (h0 : Z.1 q = some b0) (hn : nrr C q b b0) : goZ C (tkM0 Z.1 b q b0, akZ Z b q) := by
  have nbq := cp_ne hm.2.2.2.1
  obtain ⟨n1, n2, n3, n4⟩ := mate_ne h.1 hm h0
  have one : ∀ b1, Z.1 q = some b1 → b1 = b0 := fun b1 e => by
    rw [h0] at e
    exact (Option.some.inj e).symm
  refine ask_yes h.1 h.2 hm (fun b1 e => by rw [one b1 e]; exact hn) ?_ ?_ (fun b1 e => by rw [one b1 e]; exact up1_eq) (fun x h1 h2 h3 => ?_)
  · unfold tkM0 tkM
    rw [up1_ne (Ne.symm n1), up1_eq]
  · unfold tkM0 tkM
    rw [up1_ne (Ne.symm n2), up1_ne (Ne.symm nbq), up1_eq]
  · unfold tkM0 tkM
    rw [up1_ne (fun e => h3 (by rw [h0, e])), up1_ne h1, up1_ne h2]
theorem c_ask {b q : Nat} {Z : Zt} {s0 : tS} (h0 : Is s0 2 C) (hf : Fr pQ s0 s) (hC : VC C) (hr : relC s Z) (hg : goZ C Z) (hm : mayZ C Z b q) : ∃ s' Z', p7_askOne (ob g 114) (Int32.ofNat b) (Int32.ofNat q) (mm g s l r) = some (mm g s' l r) ∧ relC s' Z' ∧ goZ C Z' ∧ cAz Z' = cAz Z + 1 ∧ Fr pQ s0 s' := by
  obtain ⟨m1, m2, m3, m4, m5, m6⟩ := id hm
  have h8 := hC.1.2
  have b8 : b < 8 := by omega
  have q8 : q < 8 := by omega
  obtain ⟨r1, r2⟩ := hr
  have nb := ge0 (show b < 2147483648 by omega)
  have nq := ge0 (show q < 2147483648 by omega)
  have f1 : Fr pQ s (up2 s 117 b (s 117 b ||| bt q)) := Fr.up (by unfold pQ; omega)
  have hs1 : Is (up2 s 117 b (s 117 b ||| bt q)) 2 C := h0.fr (hf.trans f1) (fun o ho => by unfold pQ at ho; omega)
  have row : ∀ {s' : tS}, s' 117 = up2 s 117 b (s 117 b ||| bt q) 117 → ∀ b', b' < 8 → rb (s' 117 b') (akZ Z b q b') := fun {s'} e b' hb' => by
    rw [e]
    by_cases c : b' = b
    · subst c
      rw [up2_eq]
      exact rb_ak (r2 b' hb') q8
    · rw [up2_ne (by omega)]
      exact rb_congr (r2 b' hb') (fun j => (ak_old (fun h => c h.1)).symm)
  have ev : up2 s 117 b (s 117 b ||| bt q) 115 q = encB (Z.1 q) := by rw [up2_ne (by omega)]; exact r1 q q8
  have bt' : (1 : Int32) <<< (Int32.ofNat q &&& 31) = bt q := rfl
  cases hq : Z.1 q with
  | none =>
    rw [hq] at ev
    have ev : up2 s 117 b (s 117 b ||| bt q) 115 q = -1 := ev
    have n0 : (-1 : Int32) < 0 := by decide
    have e' : ∀ {s : tS} {x : Nat}, up2 s 115 x (Int32.ofNat b) = up2 s 115 x (encB (some b)) := rfl
    refine ⟨up2 (up2 (up2 s 117 b (s 117 b ||| bt q)) 115 q (Int32.ofNat b)) 115 b (Int32.ofNat q), (tkM Z.1 b q, akZ Z b q), ?_, ⟨?_, row (funext fun j => by rw [up2_ne (by omega), up2_ne (by omega)])⟩, take_1 hg hm hq, cA_up b8 q8 m5, (hf.trans f1).trans ((Fr.up (by unfold pQ; omega)).trans (Fr.up (by unfold pQ; omega)))⟩
    · simp only [p7_askOne, z_gd, nb, if_false, lt8 b8, if_true, nq, lt8 q8, z_R3, d3_ld b8, d3_st b8, bt', obs, z_R1, d1_ld q8, ev, p7_askOne_J55, d1_st q8, d1_st b8, n0, p7_askOne_J89]
    · exact mt_up (y := 0) (v := some q) (mt_up (y := 0) (v := some b) (mt_fr r1 (by decide)) q8) b8
  | some b0 =>
    rw [hq] at ev
    have ev : up2 s 117 b (s 117 b ||| bt q) 115 q = Int32.ofNat b0 := ev
    obtain ⟨n1, n2, n3, n4⟩ := mate_ne hg.1 hm hq
    obtain ⟨y, ey, hy⟩ := c_nearer (g := g) (l := l) (r := r) hs1 hC m2 m1 n4
    have b08 : b0 < 8 := by omega
    cases y with
    | true =>
      refine ⟨up2 (up2 (up2 (up2 s 117 b (s 117 b ||| bt q)) 115 q (Int32.ofNat b)) 115 b (Int32.ofNat q)) 115 b0 (-1), (tkM0 Z.1 b q b0, akZ Z b q), ?_, ⟨?_, row (funext fun j => by rw [up2_ne (by omega), up2_ne (by omega), up2_ne (by omega)])⟩, take_2 hg hm hq (hy.mp rfl), cA_up b8 q8 m5, (hf.trans f1).trans (((Fr.up (by unfold pQ; omega)).trans (Fr.up (by unfold pQ; omega))).trans (Fr.up (by unfold pQ; omega)))⟩
      · simp only [p7_askOne, z_gd, nb, if_false, lt8 b8, if_true, nq, lt8 q8, z_R3, d3_ld b8, d3_st b8, bt', obs, z_R1, d1_ld q8, ev, nm1 b08, ey, ib_t, one_z, p7_askOne_J55, d1_st q8, d1_st b8, d1_st b08, ge0 (show b0 < 2147483648 by omega), d1_len, lt8 b08, p7_askOne_J89]
      · exact mt_up (y := 0) (v := none) (mt_up (y := 0) (v := some q) (mt_up (y := 0) (v := some b) (mt_fr r1 (by decide)) q8) b8) b08
    | false =>
      have hn : ¬ nrr C q b b0 := fun h => by
        have := hy.mpr h
        cases this
      refine ⟨up2 s 117 b (s 117 b ||| bt q), (Z.1, akZ Z b q), ?_, ⟨mt_fr r1 (by decide), row rfl⟩, ask_no hg.1 hg.2 hm hq hn, cA_up b8 q8 m5, hf.trans f1⟩
      simp only [p7_askOne, z_gd, nb, if_false, lt8 b8, if_true, nq, lt8 q8, z_R3, d3_ld b8, d3_st b8, bt', obs, z_R1, d1_ld q8, ev, nm1 b08, ey, ib_f, p7_askOne_J89]
theorem enc_e {x : Option Nat} (h : ∀ d, x = some d → d < sz C) (h8 : sz C ≤ 8) : (encB x = -1) = (x = none) := enc_m1 (fun d hd => by have := h d hd; omega)
theorem c_some {Z : Zt} {s0 : tS} (h0 : Is s0 2 C) (hf : Fr pQ s0 s) (hC : VC C) (hr : relC s Z) (hg : goZ C Z) : (∃ s' Z', p7_someoneAsks (ob g 114) (mm g s l r) = some (1, mm g s' l r) ∧ relC s' Z' ∧ goZ C Z' ∧ cAz Z' = cAz Z + 1 ∧ Fr pQ s0 s') ∨ (p7_someoneAsks (ob g 114) (mm g s l r) = some (0, mm g s l r) ∧ Cmz C Z) := by
  have h8 := hC.1.2
  have Is2 : Is s 2 C := h0.fr hf (fun o ho => by unfold pQ at ho; omega)
  rw [p7_someoneAsks, z_gd]
  refine it_inv (L := fun n (_ : Unit) i => p7_someoneAsks_L2 n (ob g 114) i (mm g s l r)) (P := fun b _ => ∀ b', b' < b → b' < sz C → Z.1 b' = none → ∀ q, q < sz C → cp C b' q = true → Z.2 b' q = true) (Q := fun B => (∃ s' Z', B = some (1, mm g s' l r) ∧ relC s' Z' ∧ goZ C Z' ∧ cAz Z' = cAz Z + 1 ∧ Fr pQ s0 s') ∨ (B = some (0, mm g s l r) ∧ Cmz C Z)) (N := 8) (fun n b _ hb hP => ?_) (fun n _ hP => ?_) 8 gF 0 () (by omega) (gF_gt (by omega)) (fun b' hb' => absurd hb' (Nat.not_lt_zero b'))
  · have es := c_sing (g := g) (l := l) (r := r) (x := b) (so := 0) Is2 hb
    have lb : Int32.ofNat b < 8 := lt8 hb
    by_cases hs : b < sz C ∧ C.2 b 2 = 0 ∧ C.2 b 4 = -1
    · rw [decide_eq_true hs] at es
      have em : s 115 b = encB (Z.1 b) := hr.1 b hb
      have ee := enc_e (x := Z.1 b) (fun d hd => (hg.1.1 b d hd).2.1) h8
      have en := c_near (g := g) (l := l) (r := r) Is2 hs.1 hs.2 (hr.2 b hb)
      cases hm : Z.1 b with
      | some d =>
        left
        have ee' : (encB (Z.1 b) = -1) = False := by
          rw [ee, hm]
          exact eq_false (fun h => by cases h)
        refine ⟨(), fun b' hb' hz hm' q hq hc => ?_, ?_⟩
        · by_cases e : b' = b
          · subst e
            rw [hm] at hm'
            cases hm'
          · exact hP b' (by omega) hz hm' q hq hc
        · simp only [p7_someoneAsks_L2, lb, if_true, es, ib_t, obs, one_z, if_false, z_R1, d1_ld hb, em, ee', p7_someoneAsks_J46, i_succ]
      | none =>
        have em : s 115 b = -1 := by rw [em, hm]; rfl
        cases hv : nrV C b (Z.2 b) with
        | none =>
          left
          rw [hv] at en
          refine ⟨(), fun b' hb' hz hm' q hq hc => ?_, ?_⟩
          · by_cases e : b' = b
            · subst e
              exact nr_none hv q hq hc
            · exact hP b' (by omega) hz hm' q hq hc
          · simp only [p7_someoneAsks_L2, lb, if_true, es, ib_t, obs, one_z, if_false, z_R1, d1_ld hb, em, en, encB, p7_someoneAsks_J46, i_succ]
        | some q =>
          right
          left
          rw [hv] at en
          have hmay := may_of hs.1 hm hv
          obtain ⟨s', Z', e1, e2, e3, e4, e5⟩ := c_ask (g := g) (l := l) (r := r) h0 hf hC hr hg hmay
          refine ⟨s', Z', ?_, e2, e3, e4, e5⟩
          have hq := hmay.2.1
          simp only [p7_someoneAsks_L2, lb, if_true, es, ib_t, obs, one_z, if_false, z_R1, d1_ld hb, em, en, encB, nm1 (show q < 8 by omega), e1]
    · rw [decide_eq_false hs] at es
      left
      refine ⟨(), fun b' hb' hz hm' q hq hc => ?_, ?_⟩
      · by_cases e : b' = b
        · subst e
          have := cp_of hc
          exact absurd ⟨hz, this.1, this.2.2.1⟩ hs
        · exact hP b' (by omega) hz hm' q hq hc
      · simp only [p7_someoneAsks_L2, lb, if_true, es, ib_f, obs, p7_someoneAsks_J46, i_succ]
  · right
    refine ⟨?_, fun b hb hm q hq hc => hP b (by omega) hb hm q hq hc⟩
    simp only [p7_someoneAsks_L2, lt8_n, if_false]
theorem lt64 {i : Nat} (h : i < 64) : (Int32.ofNat i < 64) = True := eq_true ((i_lt (b := 64) (by omega) (by decide)).mpr h)
theorem c_stable {p : Nat} (hC : VC C) (h0 : Is s 2 C) (hp : p < 8) : ∃ s' Z, p7_stableOf (ob g 114) (Int32.ofNat p) (mm g s l r) = some (encB (Z.1 p), mm g s' l r) ∧ goZ C Z ∧ Cmz C Z ∧ Fr pQ s s' := by
  have h8 := hC.1.2
  have f1 := c_fill8 (g := g) (s := s) (l := l) (r := r) (v := -1) k115 n115
  have f2 := c_fill8 (g := g) (s := flS s 115 8 (-1)) (l := l) (r := r) (v := 0) k117 n117
  have R0 : relC (flS (flS s 115 8 (-1)) 117 8 0) z0Z := by
    refine ⟨fun x hx => ?_, fun b hb => ?_⟩
    · rw [flS_o (by decide), flS_v, if_pos hx]
      rfl
    · rw [flS_v, if_pos hb]
      exact rb_0
  have F0 : Fr pQ s (flS (flS s 115 8 (-1)) 117 8 0) := (flS_fr.mono (fun o ho => by unfold pQ; omega)).trans (flS_fr.mono (fun o ho => by unfold pQ; omega))
  have fin : ∀ (s1 : tS) (Z : Zt), relC s1 Z → p7_stableOf_J40 (ob g 114) (Int32.ofNat p) (mm g s1 l r) = some (encB (Z.1 p), mm g s1 l r) := fun s1 Z hr => by
    have em : s1 115 p = encB (Z.1 p) := hr.1 p hp
    simp only [p7_stableOf_J40, ge0 (show p < 2147483648 by omega), if_false, z_R1, d1_len, obs, lt8 hp, if_true, d1_ld hp, em, p7_stableOf_J63]
  have key : ∃ s' Z, p7_stableOf_L18 p7_stableOf_J31 p7_stableOf_J40 gF (ob g 114) (Int32.ofNat p) 0 (mm g (flS (flS s 115 8 (-1)) 117 8 0) l r) = some (encB (Z.1 p), mm g s' l r) ∧ goZ C Z ∧ Cmz C Z ∧ Fr pQ s s' := by
    refine it_inv (L := fun n (a : tS) i => p7_stableOf_L18 p7_stableOf_J31 p7_stableOf_J40 n (ob g 114) (Int32.ofNat p) i (mm g a l r)) (P := fun i a => ∃ Z, relC a Z ∧ goZ C Z ∧ i ≤ cAz Z ∧ Fr pQ s a) (Q := fun B => ∃ s' Z, B = some (encB (Z.1 p), mm g s' l r) ∧ goZ C Z ∧ Cmz C Z ∧ Fr pQ s s') (N := 64) (fun n i a hi hP => ?_) (fun n a hP => ?_) 64 gF 0 _ (by omega) (gF_gt (by omega)) ⟨z0Z, R0, ⟨SI_0, LS_0⟩, Nat.zero_le _, F0⟩
    · obtain ⟨Z, hr, hg, hc, hf⟩ := hP
      rcases c_some (g := g) (l := l) (r := r) h0 hf hC hr hg with ⟨s', Z', e1, e2, e3, e4, e5⟩ | ⟨e1, e2⟩
      · left
        refine ⟨s', ⟨Z', e2, e3, by omega, e5⟩, ?_⟩
        simp only [p7_stableOf_L18, lt64 hi, if_true, e1, obs, one_z, if_false, i_succ]
      · right
        refine ⟨a, Z, ?_, hg, e2, hf⟩
        simp only [p7_stableOf_L18, lt64 hi, if_true, e1, obs, p7_stableOf_J31]
        exact fin a Z hr
    · obtain ⟨Z, hr, hg, hc, hf⟩ := hP
      have := cA_63 hg.1
      omega
  obtain ⟨s', Z, e1, e2, e3, e4⟩ := key
  refine ⟨s', Z, ?_, e2, e3, e4⟩
  simp only [p7_stableOf, z_gd, z_R1, z_R3, obs, f1, f2]
  exact e1
end
