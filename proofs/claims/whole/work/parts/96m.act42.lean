section
variable {g : Nat} {s : tS} {l : tL} {r : Nat → Nat} {C : Co} {G : Lg} {L : Lw}
/-! STABLE in the reference -/
theorem u2_ld {k : Nat} (hk : k < 8) : aldI (mm g s l r) (ob g 302) 20 (Int32.ofNat k) = some (s 302 k) := mm_aldI k302 n302 hk (by decide)
theorem u2_st {k : Nat} {v : Int32} (hk : k < 8) : astI (mm g s l r) (ob g 302) (Int32.ofNat k) v = some (mm g (up2 s 302 k v) l r) := mm_astI k302 n302 hk (by decide)
def rfB (Z : Zt) (b : Nat) : Bs := fun q => Z.2 b q && decide (Z.1 q ≠ some b)
def relM (s : tS) (Z : Zt) : Prop := mtS 301 s Z.1 ∧ ∀ b, b < 8 → rb (s 302 b) (rfB Z b)
def f32 (o : Nat) : Prop := o = 301 ∨ o = 302
theorem rf_free {Z : Zt} {b : Nat} (h : SIz C Z) (hm : Z.1 b = none) : rfB Z b = Z.2 b := by
  funext q
  unfold rfB
  have : Z.1 q ≠ some b := fun e => by
    have := (h.1 q b e).2.2.1
    rw [hm] at this
    cases this
  rw [decide_eq_true this, Bool.and_true]
theorem m_near {b : Nat} {f : Bs} (h : Ms s C) (hC : VC C) (hb : b < sz C) (hf : rb (s 302 b) f) : p12_nextOf (ob g 287) (Int32.ofNat b) (mm g s l r) = some (encB (nrV C b f)) := by
  have b8 := zc_8 hC.1 hb
  rw [p12_nextOf, w_gd]
  refine it_sf (L := fun n (a : Int32) i => p12_nextOf_L4 (mm g s l r) n (ob g 287) (Int32.ofNat b) a i) (R := fun _ a x => a = encB x ∧ ∀ z, x = some z → z < sz C) (f := nrS C b f) (Q := fun B x => B = some (encB x)) (N := sz C) (fun n i a x hi hR => ?_) (fun n a x hR => ?_) (sz C) gF 0 (-1) none (by omega) (sz_gF hC.1) ⟨rfl, fun z hz => (by cases hz)⟩
  · obtain ⟨rfl, hx⟩ := hR
    have i8 := zc_8 hC.1 hi
    have ec := m_canp (g := g) (l := l) (r := r) h hC hb hi
    cases hcp : cp C b i with
    | false =>
      rw [hcp] at ec
      have ex : nrS C b f i x = x := by
        unfold nrS
        rw [hcp]
        rfl
      refine ⟨encB x, ⟨by rw [ex], by rw [ex]; exact hx⟩, ?_⟩
      simp only [p12_nextOf_L4, m_people h, obs, zc_yes hC.1 hi, if_true, ec, ib_f, p12_nextOf_J56, p12_nextOf_J54, p12_nextOf, i_succ]
    | true =>
      rw [hcp] at ec
      have eh := rb_has hf i8
      cases hfi : f i with
      | true =>
        rw [hfi] at eh
        have ex : nrS C b f i x = x := by
          unfold nrS
          rw [hcp, hfi]
          rfl
        refine ⟨encB x, ⟨by rw [ex], by rw [ex]; exact hx⟩, ?_⟩
        simp only [p12_nextOf_L4, m_people h, obs, zc_yes hC.1 hi, if_true, ec, ib_t, one_z, if_false, w_R25, u2_ld b8, m_has, eh, p12_nextOf_J56, p12_nextOf_J54, p12_nextOf, i_succ]
      | false =>
        rw [hfi] at eh
        cases x with
        | none =>
          have ev : nrS C b f i none = some i := by
            unfold nrS
            rw [hcp, hfi]
            exact if_pos rfl
          refine ⟨Int32.ofNat i, ⟨by rw [ev]; rfl, fun z hz => ?_⟩, ?_⟩
          · rw [ev] at hz
            have := Option.some.inj hz
            omega
          · simp only [p12_nextOf_L4, m_people h, obs, zc_yes hC.1 hi, if_true, ec, ib_t, ib_f, one_z, if_false, w_R25, u2_ld b8, m_has, eh, encB, p12_nextOf_J56, p12_nextOf_J54, p12_nextOf, i_succ]
        | some z =>
          have hz' := hx z rfl
          have ev : nrS C b f i (some z) = if gapF C b i < gapF C b z then some i else some z := by
            unfold nrS
            rw [hcp, hfi]
            exact if_pos rfl
          by_cases cg : gapF C b i < gapF C b z
          · have ev' : nrS C b f i (some z) = some i := by rw [ev]; exact if_pos cg
            refine ⟨Int32.ofNat i, ⟨by rw [ev']; rfl, fun w hw => ?_⟩, ?_⟩
            · rw [ev'] at hw
              have := Option.some.inj hw
              omega
            · simp only [p12_nextOf_L4, m_people h, obs, zc_yes hC.1 hi, if_true, ec, ib_t, ib_f, one_z, if_false, w_R25, u2_ld b8, m_has, eh, encB, nm1 (zc_8 hC.1 hz'), m_gap h hb hi, m_gap h hb hz', cg, p12_nextOf_J56, p12_nextOf_J54, p12_nextOf, i_succ]
          · have ev' : nrS C b f i (some z) = some z := by rw [ev]; exact if_neg cg
            refine ⟨Int32.ofNat z, ⟨by rw [ev']; rfl, fun w hw => ?_⟩, ?_⟩
            · rw [ev'] at hw
              have := Option.some.inj hw
              omega
            · simp only [p12_nextOf_L4, m_people h, obs, zc_yes hC.1 hi, if_true, ec, ib_t, ib_f, one_z, if_false, w_R25, u2_ld b8, m_has, eh, encB, nm1 (zc_8 hC.1 hz'), m_gap h hb hi, m_gap h hb hz', cg, p12_nextOf_J56, p12_nextOf_J54, p12_nextOf, i_succ]
  · obtain ⟨rfl, hx⟩ := hR
    simp only [p12_nextOf_L4, m_people h, obs, zc_no hC.1, if_false]
theorem m_rather {q b b0 : Nat} (h : Ms s C) (hC : VC C) (hq : q < sz C) (hb : b < sz C) (h0 : b0 < sz C) (hm : s 301 q = Int32.ofNat b0) : ∃ y : Bool, p12_wouldRather (ob g 287) (Int32.ofNat q) (Int32.ofNat b) (mm g s l r) = some (ib y) ∧ (y = true ↔ nrr C q b b0) := by
  have h8 := hC.1.2
  have lt := ltNN (show b < 2147483648 by omega) (show b0 < 2147483648 by omega)
  have g1 := gap_b hC hq hb
  have g2 := gap_b hC hq h0
  have z0 : (0 : Int32).toInt = 0 := rfl
  unfold gI at g1 g2
  have es : (gapF C q b - gapF C q b0).toInt = (gapF C q b).toInt - (gapF C q b0).toInt := i_tsub (by omega) (by omega)
  unfold nrr gI
  by_cases c1 : gapF C q b - gapF C q b0 < 0
  · have := i_ltI.mp c1
    refine ⟨true, ?_, fun _ => Or.inl (by omega), fun _ => rfl⟩
    simp only [p12_wouldRather, w_gd, w_R24, obs, u1_ld (show q < 8 by omega), hm, nm1 (show b0 < 8 by omega), if_false, m_gap h hq hb, m_gap h hq h0, c1, if_true, p12_wouldRather_J54, p12_wouldRather_J49, p12_wouldRather_J53, p12_wouldRather, bZ_1, ib_t]
  · have n1 : ¬ (gapF C q b - gapF C q b0).toInt < 0 := fun hh => c1 (i_ltI.mpr (by omega))
    by_cases c2 : gapF C q b - gapF C q b0 = 0
    · have c2' : (gapF C q b - gapF C q b0 = 0) = True := eq_true c2
      have e2 : (gapF C q b - gapF C q b0).toInt = 0 := by rw [c2]; rfl
      by_cases c3 : b < b0
      · refine ⟨true, ?_, fun _ => Or.inr ⟨by omega, c3⟩, fun _ => rfl⟩
        simp only [p12_wouldRather, w_gd, w_R24, obs, u1_ld (show q < 8 by omega), hm, nm1 (show b0 < 8 by omega), if_false, m_gap h hq hb, m_gap h hq h0, c1, c2', if_true, lt, c3, p12_wouldRather_J54, p12_wouldRather_J49, p12_wouldRather_J53, p12_wouldRather, bZ_1, ib_t]
      · refine ⟨false, ?_, fun hh => (by cases hh), fun hh => by omega⟩
        simp only [p12_wouldRather, w_gd, w_R24, obs, u1_ld (show q < 8 by omega), hm, nm1 (show b0 < 8 by omega), if_false, m_gap h hq hb, m_gap h hq h0, c1, c2', if_true, lt, c3, p12_wouldRather_J54, p12_wouldRather_J49, p12_wouldRather_J53, p12_wouldRather, bZ_0, ib_f]
    · have n2 : ¬ (gapF C q b - gapF C q b0).toInt = 0 := fun hh => c2 (i_ext (by rw [hh]; rfl))
      refine ⟨false, ?_, fun hh => (by cases hh), fun hh => by omega⟩
      simp only [p12_wouldRather, w_gd, w_R24, obs, u1_ld (show q < 8 by omega), hm, nm1 (show b0 < 8 by omega), if_false, m_gap h hq hb, m_gap h hq h0, c1, c2, p12_wouldRather_J54, p12_wouldRather_J49, p12_wouldRather_J53, p12_wouldRather, bZ_0, ib_f]
/-- rows of those who were refused -/
theorem rf_same {Z : Zt} {b q b' : Nat} {m' : Mt} (h : SIz C Z) (hm : mayZ C Z b q) (e2 : m' q = some b) (hg : ∀ q', cp C b' q' = true → q' ≠ q → m' q' = Z.1 q') (hb : b' ≠ b) (hq : Z.1 q ≠ some b') : rfB (m', akZ Z b q) b' = rfB Z b' := by
  funext j
  unfold rfB
  show (akZ Z b q b' j && decide (m' j ≠ some b')) = _
  rw [ak_old (fun h => hb h.1)]
  cases hz : Z.2 b' j with
  | false => rfl
  | true =>
    by_cases e : j = q
    · subst e
      have n1 : m' j ≠ some b' := fun e => by
        rw [e2] at e
        exact hb (Option.some.inj e).symm
      rw [decide_eq_true n1, decide_eq_true hq]
    · rw [hg j (h.2.1 b' j hz).1 e]
theorem rf_me {Z : Zt} {b q : Nat} {m' : Mt} (h : SIz C Z) (hm : mayZ C Z b q) (e2 : m' q = some b) (hg : ∀ q', cp C b q' = true → q' ≠ q → m' q' = Z.1 q') : rfB (m', akZ Z b q) b = rfB Z b := by
  funext j
  unfold rfB
  show (akZ Z b q b j && decide (m' j ≠ some b)) = _
  by_cases e : j = q
  · subst e
    have d1 : decide (m' j ≠ some b) = false := decide_eq_false (fun h => h e2)
    rw [d1, Bool.and_false, hm.2.2.2.2.1, Bool.false_and]
  · rw [ak_old (fun h => e h.2)]
    cases hz : Z.2 b j with
    | false => rfl
    | true => rw [hg j (h.2.1 b j hz).1 e]
theorem tk_girl {Z : Zt} {b q : Nat} (hm : mayZ C Z b q) : ∀ b' q', cp C b' q' = true → q' ≠ q → tkM Z.1 b q q' = Z.1 q' := fun b' q' hc hq => by
  unfold tkM
  rw [up1_ne (fun e => ?_), up1_ne hq]
  rw [e] at hc
  exact cp_boy hm.2.2.2.1 hc
theorem tk_girl0 {Z : Zt} {b q b0 : Nat} (h : SIz C Z) (hm : mayZ C Z b q) (h0 : Z.1 q = some b0) : ∀ b' q', cp C b' q' = true → q' ≠ q → tkM0 Z.1 b q b0 q' = Z.1 q' := fun b' q' hc hq => by
  unfold tkM0
  rw [up1_ne (fun e => ?_), tk_girl hm b' q' hc hq]
  rw [e] at hc
  exact cp_boy (mate_ne h hm h0).2.2.1 hc
theorem m_ask {b : Nat} {Z : Zt} {s0 : tS} (hM0 : Ms s0 C) (hf : Fr f32 s0 s) (hC : VC C) (hr : relM s Z) (hg : goZ C Z) (hb : b < sz C) (hm : Z.1 b = none) : ∃ s', p12_asks (ob g 287) (Int32.ofNat b) (mm g s l r) = some (mm g s' l r) ∧ Fr f32 s0 s' ∧ ((nrV C b (Z.2 b) = none ∧ s' = s) ∨ ∃ Z', relM s' Z' ∧ goZ C Z' ∧ cAz Z' = cAz Z + 1 ∧ ∃ q, nrV C b (Z.2 b) = some q) := by
  have h8 := hC.1.2
  have b8 : b < 8 := by omega
  have hM : Ms s C := hM0.fr hf (fun o ho => by unfold f32 at ho; omega)
  obtain ⟨r1, r2⟩ := hr
  have rbb := r2 b b8
  rw [rf_free hg.1 hm] at rbb
  have en := m_near (g := g) (l := l) (r := r) hM hC hb rbb
  cases hv : nrV C b (Z.2 b) with
  | none =>
    rw [hv] at en
    refine ⟨s, ?_, hf, Or.inl ⟨rfl, rfl⟩⟩
    simp only [p12_asks, w_gd, en, obs, encB, if_true]
  | some q =>
    rw [hv] at en
    have hmay := may_of hb hm hv
    obtain ⟨m1, m2, m3, m4, m5, m6⟩ := id hmay
    have q8 : q < 8 := by omega
    have nbq := cp_ne m4
    have ev : s 301 q = encB (Z.1 q) := r1 q q8
    have bt' : (1 : Int32) <<< (Int32.ofNat q &&& 31) = bt q := rfl
    cases hq : Z.1 q with
    | none =>
      rw [hq] at ev
      have ev : s 301 q = -1 := ev
      have e2 : tkM Z.1 b q q = some b := by
        unfold tkM
        rw [up1_ne (Ne.symm nbq), up1_eq]
      refine ⟨up2 (up2 s 301 q (Int32.ofNat b)) 301 b (Int32.ofNat q), ?_, hf.trans ((Fr.up (Or.inl rfl)).trans (Fr.up (Or.inl rfl))), Or.inr ⟨(tkM Z.1 b q, akZ Z b q), ⟨mt_up (y := 0) (v := some q) (mt_up (y := 0) (v := some b) r1 q8) b8, fun b' hb' => ?_⟩, take_1 hg hmay hq, cA_up b8 q8 m5, q, rfl⟩⟩
      · simp only [p12_asks, w_gd, en, obs, encB, nm1 q8, if_false, p12_wouldRather, w_R24, u1_ld q8, ev, if_true, one_z, p12_asks_J65, u1_st q8, u1_st b8]
      · rw [up2_ne (by omega), up2_ne (by omega)]
        by_cases c : b' = b
        · subst c
          rw [rf_me hg.1 hmay e2 (tk_girl hmay b')]
          exact r2 b' hb'
        · rw [rf_same hg.1 hmay e2 (tk_girl hmay b') c (fun e => by rw [hq] at e; cases e)]
          exact r2 b' hb'
    | some b0 =>
      rw [hq] at ev
      have ev : s 301 q = Int32.ofNat b0 := ev
      obtain ⟨n1, n2, n3, n4⟩ := mate_ne hg.1 hmay hq
      obtain ⟨y, ey, hy⟩ := m_rather (g := g) (l := l) (r := r) hM hC m2 m1 n4 ev
      have b08 : b0 < 8 := by omega
      cases y with
      | true =>
        have e2 : tkM0 Z.1 b q b0 q = some b := by
          unfold tkM0 tkM
          rw [up1_ne (Ne.symm n2), up1_ne (Ne.symm nbq), up1_eq]
        have o302 : up2 s 301 b0 (-1) 302 b0 = s 302 b0 := up2_ne (by omega)
        refine ⟨up2 (up2 (up2 (up2 s 301 b0 (-1)) 302 b0 (s 302 b0 ||| bt q)) 301 q (Int32.ofNat b)) 301 b (Int32.ofNat q), ?_, hf.trans (((Fr.up (Or.inl rfl)).trans (Fr.up (Or.inr rfl))).trans ((Fr.up (Or.inl rfl)).trans (Fr.up (Or.inl rfl)))), Or.inr ⟨(tkM0 Z.1 b q b0, akZ Z b q), ⟨?_, fun b' hb' => ?_⟩, take_2 hg hmay hq (hy.mp rfl), cA_up b8 q8 m5, q, rfl⟩⟩
        · simp only [p12_asks, w_gd, en, obs, encB, nm1 q8, nm1 b08, if_false, ey, ib_t, one_z, w_R24, w_R25, u1_ld q8, ev, u1_st b08, u2_ld b08, o302, bt', u2_st b08, p12_asks_J65, u1_st q8, u1_st b8]
        · intro x hx
          have := mt_up (y := 0) (v := none) (mt_up (y := 0) (v := some q) (mt_up (y := 0) (v := some b) r1 q8) b8) b08 x hx
          refine Eq.trans ?_ this
          show up2 (up2 (up2 (up2 s 301 b0 (-1)) 302 b0 _) 301 q (Int32.ofNat b)) 301 b (Int32.ofNat q) 301 x = up2 (up2 (up2 s 301 q (Int32.ofNat b)) 301 b (Int32.ofNat q)) 301 b0 (-1) 301 x
          by_cases c0 : x = b0
          · rw [up2_ne (by omega), up2_ne (by omega), up2_ne (by omega), c0, up2_eq, up2_eq]
          · have r0 : up2 (up2 (up2 s 301 q (Int32.ofNat b)) 301 b (Int32.ofNat q)) 301 b0 (-1) 301 x = up2 (up2 s 301 q (Int32.ofNat b)) 301 b (Int32.ofNat q) 301 x := up2_ne (by omega)
            rw [r0]
            by_cases c1 : x = b
            · rw [c1, up2_eq, up2_eq]
            · have r1' : up2 (up2 s 301 q (Int32.ofNat b)) 301 b (Int32.ofNat q) 301 x = up2 s 301 q (Int32.ofNat b) 301 x := up2_ne (by omega)
              rw [r1', up2_ne (by omega)]
              by_cases c2 : x = q
              · rw [c2, up2_eq, up2_eq]
              · rw [up2_ne (by omega), up2_ne (by omega), up2_ne (by omega), up2_ne (by omega)]
        · have r302 : up2 (up2 (up2 (up2 s 301 b0 (-1)) 302 b0 (s 302 b0 ||| bt q)) 301 q (Int32.ofNat b)) 301 b (Int32.ofNat q) 302 b' = up2 (up2 s 301 b0 (-1)) 302 b0 (s 302 b0 ||| bt q) 302 b' := by rw [up2_ne (by omega), up2_ne (by omega)]
          rw [r302]
          by_cases c : b' = b0
          · subst c
            rw [up2_eq]
            refine rb_congr (rb_or (r2 b' hb') (rb_bt q8)) (fun j => ?_)
            unfold rfB
            show _ = (akZ Z b q b' j && decide (tkM0 Z.1 b q b' j ≠ some b'))
            rw [ak_old (fun h => n1 h.1)]
            by_cases e : j = q
            · subst e
              have n : tkM0 Z.1 b j b' j ≠ some b' := fun e => by
                rw [e2] at e
                exact n1 (Option.some.inj e).symm
              rw [(hg.1.2.2.1 b' j n3 hq).1, decide_eq_true n, decide_eq_true rfl, Bool.or_true]
              rfl
            · rw [decide_eq_false e, Bool.or_false]
              cases hz : Z.2 b' j with
              | false => rfl
              | true => rw [tk_girl0 hg.1 hmay hq b' j (hg.1.2.1 b' j hz).1 e]
          · rw [up2_ne (by omega), up2_ne (by omega)]
            by_cases c1 : b' = b
            · subst c1
              rw [rf_me hg.1 hmay e2 (tk_girl0 hg.1 hmay hq b')]
              exact r2 b' hb'
            · rw [rf_same hg.1 hmay e2 (tk_girl0 hg.1 hmay hq b') c1 (fun e => by rw [hq] at e; exact c (Option.some.inj e).symm)]
              exact r2 b' hb'
      | false =>
        have hn : ¬ nrr C q b b0 := fun h => by
          have := hy.mpr h
          cases this
        refine ⟨up2 s 302 b (s 302 b ||| bt q), ?_, hf.trans (Fr.up (Or.inr rfl)), Or.inr ⟨(Z.1, akZ Z b q), ⟨mt_fr r1 (by decide), fun b' hb' => ?_⟩, ask_no hg.1 hg.2 hmay hq hn, cA_up b8 q8 m5, q, rfl⟩⟩
        · simp only [p12_asks, w_gd, en, obs, encB, nm1 q8, if_false, ey, ib_f, if_true, w_R25, u2_ld b8, bt', u2_st b8]
        · by_cases c : b' = b
          · subst c
            rw [up2_eq]
            refine rb_congr (rb_or (r2 b' hb') (rb_bt q8)) (fun j => ?_)
            unfold rfB
            show _ = (akZ Z b' q b' j && decide (Z.1 j ≠ some b'))
            by_cases e : j = q
            · subst e
              have n : Z.1 j ≠ some b' := fun e => by
                rw [hq] at e
                exact n1 (Option.some.inj e)
              rw [ak_new, decide_eq_true n, decide_eq_true rfl, Bool.or_true]
              rfl
            · rw [ak_old (fun h => e h.2), decide_eq_false e, Bool.or_false]
          · rw [up2_ne (by omega)]
            refine rb_congr (r2 b' hb') (fun j => ?_)
            unfold rfB
            show _ = (akZ Z b q b' j && decide (Z.1 j ≠ some b'))
            rw [ak_old (fun h => c h.1)]
theorem cm_no {Z : Zt} {b : Nat} (hc : Cmz C Z) (hb : b < sz C) (hm : Z.1 b = none) : nrV C b (Z.2 b) = none := by
  cases hv : nrV C b (Z.2 b) with
  | none => rfl
  | some q =>
    obtain ⟨h1, h2, h3, -⟩ := nr_some hv
    have := hc b hb hm q h1 h2
    rw [h3] at this
    cases this
theorem m_round {x1 n i : Nat} {Z : Zt} {s0 : tS} (hM0 : Ms s0 C) (hf : Fr f32 s0 s) (hC : VC C) (hr : relM s Z) (hg : goZ C Z) : ∃ s' Z', p12_stable_L55 (p12_stable_J92 (p12_stable_L47 n)) gF (ob g 287) (Int32.ofNat x1) (Int32.ofNat i) 0 (mm g s l r) = p12_stable_L47 n (ob g 287) (Int32.ofNat x1) (Int32.ofNat (i + 1)) (mm g s' l r) ∧ relM s' Z' ∧ goZ C Z' ∧ Fr f32 s0 s' ∧ ((cAz Z < cAz Z' ∧ ¬ Cmz C Z) ∨ Cmz C Z') := by
  have h8 := hC.1.2
  refine it_inv (L := fun n' (a : tS) b => p12_stable_L55 (p12_stable_J92 (p12_stable_L47 n)) n' (ob g 287) (Int32.ofNat x1) (Int32.ofNat i) b (mm g a l r)) (P := fun b a => ∃ Y, relM a Y ∧ goZ C Y ∧ Fr f32 s0 a ∧ ((cAz Z < cAz Y ∧ ¬ Cmz C Z) ∨ (Y = Z ∧ ∀ b', b' < b → Z.1 b' = none → ∀ q, q < sz C → cp C b' q = true → Z.2 b' q = true))) (Q := fun B => ∃ s' Z', B = p12_stable_L47 n (ob g 287) (Int32.ofNat x1) (Int32.ofNat (i + 1)) (mm g s' l r) ∧ relM s' Z' ∧ goZ C Z' ∧ Fr f32 s0 s' ∧ ((cAz Z < cAz Z' ∧ ¬ Cmz C Z) ∨ Cmz C Z')) (N := sz C) (fun n' b a hb hP => ?_) (fun n' a hP => ?_) (sz C) gF 0 s (by omega) (sz_gF hC.1) ⟨Z, hr, hg, hf, Or.inr ⟨rfl, fun b' hb' => absurd hb' (Nat.not_lt_zero b')⟩⟩
  · obtain ⟨Y, yr, yg, yf, yc⟩ := hP
    have hM : Ms a C := hM0.fr yf (fun o ho => by unfold f32 at ho; omega)
    left
    by_cases cb : C.2 b 2 = 0
    · have em : a 301 b = encB (Y.1 b) := yr.1 b (by omega)
      cases hm : Y.1 b with
      | some d =>
        have hd := (yg.1.1 b d hm).2.1
        have em : a 301 b = Int32.ofNat d := by rw [em, hm]; rfl
        refine ⟨a, ⟨Y, yr, yg, yf, ?_⟩, ?_⟩
        · rcases yc with yc | ⟨rfl, yc⟩
          · exact Or.inl yc
          · refine Or.inr ⟨rfl, fun b' hb' hm' q hq hc => ?_⟩
            by_cases e : b' = b
            · subst e
              rw [hm] at hm'
              cases hm'
            · exact yc b' (by omega) hm' q hq hc
        · simp only [p12_stable_L55, m_people hM, obs, zc_yes hC.1 hb, if_true, m_boy hM hb, decide_eq_true cb, ib_t, one_z, if_false, w_R24, u1_ld (show b < 8 by omega), em, nm1 (show d < 8 by omega), p12_stable_J86, i_succ]
      | none =>
        have em : a 301 b = -1 := by rw [em, hm]; rfl
        obtain ⟨s', e1, f1, hh⟩ := m_ask (g := g) (l := l) (r := r) hM0 yf hC yr yg hb hm
        have est : p12_stable_L55 (p12_stable_J92 (p12_stable_L47 n)) (n' + 1) (ob g 287) (Int32.ofNat x1) (Int32.ofNat i) (Int32.ofNat b) (mm g a l r) = p12_stable_L55 (p12_stable_J92 (p12_stable_L47 n)) n' (ob g 287) (Int32.ofNat x1) (Int32.ofNat i) (Int32.ofNat (b + 1)) (mm g s' l r) := by
          simp only [p12_stable_L55, m_people hM, obs, zc_yes hC.1 hb, if_true, m_boy hM hb, decide_eq_true cb, ib_t, one_z, if_false, w_R24, u1_ld (show b < 8 by omega), em, e1, p12_stable_J86, i_succ]
        rcases hh with ⟨h1, rfl⟩ | ⟨Z', z1, z2, z3, q, z4⟩
        · refine ⟨s', ⟨Y, yr, yg, yf, ?_⟩, est⟩
          rcases yc with yc | ⟨rfl, yc⟩
          · exact Or.inl yc
          · refine Or.inr ⟨rfl, fun b' hb' hm' q hq hc => ?_⟩
            by_cases e : b' = b
            · subst e
              exact nr_none h1 q hq hc
            · exact yc b' (by omega) hm' q hq hc
        · refine ⟨s', ⟨Z', z1, z2, f1, Or.inl ?_⟩, est⟩
          rcases yc with ⟨y1, y2⟩ | ⟨rfl, yc⟩
          · exact ⟨by omega, y2⟩
          · refine ⟨by omega, fun hc => ?_⟩
            rw [cm_no hc hb hm] at z4
            cases z4
    · refine ⟨a, ⟨Y, yr, yg, yf, ?_⟩, ?_⟩
      · rcases yc with yc | ⟨rfl, yc⟩
        · exact Or.inl yc
        · refine Or.inr ⟨rfl, fun b' hb' hm' q hq hc => ?_⟩
          by_cases e : b' = b
          · subst e
            exact absurd (cp_of hc).1 cb
          · exact yc b' (by omega) hm' q hq hc
      · simp only [p12_stable_L55, m_people hM, obs, zc_yes hC.1 hb, if_true, m_boy hM hb, decide_eq_false cb, ib_f, p12_stable_J86, i_succ]
  · obtain ⟨Y, yr, yg, yf, yc⟩ := hP
    have hM : Ms a C := hM0.fr yf (fun o ho => by unfold f32 at ho; omega)
    refine ⟨a, Y, ?_, yr, yg, yf, ?_⟩
    · simp only [p12_stable_L55, m_people hM, obs, zc_no hC.1, if_false, p12_stable_J92, i_succ]
    · rcases yc with yc | ⟨rfl, yc⟩
      · exact Or.inl yc
      · exact Or.inr (fun b hb hm q hq hc => yc b hb hm q hq hc)
theorem lt64n : ((Int32.ofNat 64 : Int32) < 64) = False := eq_false (by decide)
theorem m_stable {p : Nat} (hM : Ms s C) (hC : VC C) (hp : p < sz C) : ∃ s' Z, p12_stable_L26 p12_stable_J45 gF (ob g 287) (Int32.ofNat p) 0 (mm g (flS s 301 8 (-1)) l r) = some (encB (Z.1 p), mm g s' l r) ∧ goZ C Z ∧ Cmz C Z ∧ Fr f32 s s' := by
  have h8 := hC.1.2
  have e0 : p12_stable_L26 p12_stable_J45 gF (ob g 287) (Int32.ofNat p) 0 (mm g (flS s 301 8 (-1)) l r) = p12_stable_J45 (ob g 287) (Int32.ofNat p) (mm g (flS (flS s 301 8 (-1)) 302 8 0) l r) := by
    refine it_up (fun n (b : tS) i => p12_stable_L26 p12_stable_J45 n (ob g 287) (Int32.ofNat p) i (mm g b l r)) 8 (fun i b => up2 b 302 i 0) (fun b => p12_stable_J45 (ob g 287) (Int32.ofNat p) (mm g b l r)) (fun n i b hi => ?_) (fun n b => ?_) gF (flS s 301 8 (-1)) (gF_gt (by omega))
    · simp only [p12_stable_L26, lt8_y hi, if_true, w_R25, obs, u2_st hi, i_succ]
    · simp only [p12_stable_L26, lt8_n, if_false]
  have R0 : relM (flS (flS s 301 8 (-1)) 302 8 0) z0Z := by
    refine ⟨fun x hx => ?_, fun b hb => ?_⟩
    · rw [flS_o (by decide), flS_v, if_pos hx]
      rfl
    · rw [flS_v, if_pos hb]
      exact rb_congr rb_0 (fun j => rfl)
  have F0 : Fr f32 s (flS (flS s 301 8 (-1)) 302 8 0) := (flS_fr.mono (fun o ho => Or.inl ho)).trans (flS_fr.mono (fun o ho => Or.inr ho))
  rw [e0, p12_stable_J45]
  refine it_inv (L := fun n (a : tS) i => p12_stable_L47 n (ob g 287) (Int32.ofNat p) i (mm g a l r)) (P := fun i a => ∃ Z, relM a Z ∧ goZ C Z ∧ Fr f32 s a ∧ (i ≤ cAz Z ∨ Cmz C Z)) (Q := fun B => ∃ s' Z, B = some (encB (Z.1 p), mm g s' l r) ∧ goZ C Z ∧ Cmz C Z ∧ Fr f32 s s') (N := 64) (fun n i a hi hP => ?_) (fun n a hP => ?_) 64 gF 0 _ (by omega) (gF_gt (by omega)) ⟨z0Z, R0, ⟨SI_0, LS_0⟩, F0, Or.inl (Nat.zero_le _)⟩
  · obtain ⟨Z, zr, zg, zf, zc⟩ := hP
    obtain ⟨s', Z', e1, y1, y2, y3, y4⟩ := m_round (g := g) (l := l) (r := r) (x1 := p) (n := n) (i := i) hM zf hC zr zg
    left
    refine ⟨s', ⟨Z', y1, y2, y3, ?_⟩, ?_⟩
    · rcases y4 with ⟨y5, y6⟩ | y5
      · rcases zc with zc | zc
        · exact Or.inl (by omega)
        · exact absurd zc y6
      · exact Or.inr y5
    · simp only [p12_stable_L47, lt64 hi, if_true]
      exact e1
  · obtain ⟨Z, zr, zg, zf, zc⟩ := hP
    have em : a 301 p = encB (Z.1 p) := zr.1 p (by omega)
    refine ⟨a, Z, ?_, zg, ?_, zf⟩
    · simp only [p12_stable_L47, lt64n, if_false, w_R24, obs, u1_ld (show p < 8 by omega), em]
    · rcases zc with zc | zc
      · have := cA_63 zg.1
        omega
      · exact zc
theorem rs_f32 {s' : tS} (f : Fr f32 s s') : RS s s' := RS.of f (fun o ho j => by unfold f32 at ho; unfold scr; omega) (by unfold f32; omega) (by unfold f32; omega) (by unfold f32; omega)
theorem op_stable {x1 : Int32} : Op g H_stable (fun M => p11_stable (ob g 0) x1 M) (fun M => p12_stable (ob g 287) x1 M) := by
  refine opP1 (x := x1) (by decide) (fun s l r h => ?_) (fun s l r h => ⟨0, ?_⟩) (fun s l r C G L i hc hr hi ex h => Or.inr ?_)
  · simp only [p11_stable, a_gd, h, xb]
  · simp only [p12_stable, w_gd, w_putI, obs, h, m_th1, one_z, if_false]
  · subst ex
    have hC := hc.1.2.2.2.2.1
    have i8 := zc_8 hC.1 hi
    obtain ⟨s1, Z1, e1, g1, c1, f1⟩ := c_stable (g := g) (l := l) (r := r) (p := i) hC hc.1.1 i8
    refine ⟨encB (Z1.1 i), s1, ?_, rs_pQ f1, fun l1 hc1 hn => ?_⟩
    · simp only [p11_stable, a_gd, h, xb, a_R16, obs, e1, xr, Option.map_some]
    · have M1 := m287 hc1.1.2.2.1 (v := 0)
      obtain ⟨s2, Z2, e2, g2, c2, f2⟩ := m_stable (g := g) (l := l1) (r := r) M1 hC hi
      have hz := endZ g1.1 c1 g1.2 g2.1 c2 g2.2
      refine ⟨s2, ?_, rs_thr.trans (rs_f32 f2), by rw [f2 287 (by unfold f32; omega), up2_eq]⟩
      rw [hz]
      simp only [p12_stable, w_gd, w_putI, obs, hn, m_th0, if_true, m_noM]
      exact e2
end
