section
variable {g : Nat} {s : tS} {l : tL} {r : Nat → Nat} {C : Co} {G : Lg} {L : Lw} {n : Nat}
/-- the parts by the AGE behind -/
def gpS (L : Lw) (C : Co) (q : Nat) (bits : Int32) (a sy : Nat) (x : (Nat → Int32) × Int32) : (Nat → Int32) × Int32 := if hasb bits sy = true then (up1 x.1 (abN L C q a sy) (x.1 (abN L C q a sy) + 1), maxI x.2 (x.1 (abN L C q a sy) + 1)) else x
def gpF (L : Lw) (C : Co) (q : Nat) (bits : Int32) (a N : Nat) : Int32 := (itF (gpS L C q bits a) N 0 (fun _ => 0, 0)).2
theorem gp_same {q a : Nat} {bits : Int32} (h8 : sz C ≤ 8) (hb : ∀ k, k < 16 → hasb bits k = true → k < 2 * sz C) : gpF L C q bits a 16 = gpF L C q bits a (2 * sz C) := by
  unfold gpF
  have e : 16 = 2 * sz C + (16 - 2 * sz C) := by omega
  rw [e, itF_add, itF_id _ _ (fun j h1 h2 => ?_)]
  unfold gpS
  rw [if_neg]
  intro h
  have := hb j (by omega) h
  omega
theorem gp_le {q a : Nat} {bits : Int32} : (gpF L C q bits a 16).toInt ≤ 16 ∧ 0 ≤ (gpF L C q bits a 16).toInt := by
  have key : ∀ (m i : Nat) (x : (Nat → Int32) × Int32), i + m ≤ 16 → (∀ d, 0 ≤ (x.1 d).toInt ∧ (x.1 d).toInt ≤ i) → (0 ≤ x.2.toInt ∧ x.2.toInt ≤ i) → (itF (gpS L C q bits a) m i x).2.toInt ≤ 16 ∧ 0 ≤ (itF (gpS L C q bits a) m i x).2.toInt := by
    intro m
    induction m with
    | zero => intro i x h1 h2 h3; exact ⟨by show x.2.toInt ≤ 16; omega, h3.1⟩
    | succ m ih =>
      intro i x h1 h2 h3
      show (itF (gpS L C q bits a) m (i + 1) (gpS L C q bits a i x)).2.toInt ≤ 16 ∧ _
      have hd := h2 (abN L C q a i)
      have o1 : (1 : Int32).toInt = 1 := rfl
      have e1 : (x.1 (abN L C q a i) + 1).toInt = (x.1 (abN L C q a i)).toInt + 1 := by rw [i_tadd] <;> omega
      refine ih (i + 1) (gpS L C q bits a i x) (by omega) (fun d => ?_) ?_
      · unfold gpS
        by_cases c : hasb bits i = true
        · rw [if_pos c]
          show 0 ≤ (up1 x.1 (abN L C q a i) (x.1 (abN L C q a i) + 1) d).toInt ∧ (up1 x.1 (abN L C q a i) (x.1 (abN L C q a i) + 1) d).toInt ≤ _
          by_cases c2 : d = abN L C q a i
          · rw [c2, up1_eq, e1]
            omega
          · rw [up1_ne c2]
            have := h2 d
            omega
        · rw [if_neg c]
          have := h2 d
          omega
      · unfold gpS
        by_cases c : hasb bits i = true
        · rw [if_pos c]
          show 0 ≤ (maxI x.2 (x.1 (abN L C q a i) + 1)).toInt ∧ (maxI x.2 (x.1 (abN L C q a i) + 1)).toInt ≤ _
          unfold maxI
          split <;> omega
        · rw [if_neg c]
          omega
  have z : (0 : Int32).toInt = 0 := rfl
  exact key 16 0 (fun _ => 0, 0) (by omega) (fun d => by show 0 ≤ (0 : Int32).toInt ∧ (0 : Int32).toInt ≤ _; omega) (by show 0 ≤ (0 : Int32).toInt ∧ (0 : Int32).toInt ≤ _; omega)
theorem b3_ld {k : Nat} (hk : k < 99) : aldI (mm g s l r) (ob g 113) 20 (Int32.ofNat k) = some (s 113 k) := mm_aldI k113 n113 hk (by decide)
theorem b3_st {k : Nat} {v : Int32} (hk : k < 99) : astI (mm g s l r) (ob g 113) (Int32.ofNat k) v = some (mm g (up2 s 113 k v) l r) := mm_astI k113 n113 hk (by decide)
theorem eh {x : Int32} {i : Nat} : (((x >>> (Int32.ofNat i &&& 31)) &&& 1) = 1) = (hasb x i = true) := by rw [hasb, decide_eq_true_eq]
theorem c_part {q a : Nat} {bits : Int32} {s0 : tS} (h : FPs L C q s0 s) (hV : VL L) (hC : VC C) (hq : q < sz C) (ha : a < rnd C) (hb : ∀ k, k < 16 → hasb bits k = true → k < 2 * sz C) : ∃ s', p0_greatestPart (ob g 95) (Int32.ofNat q) (Int32.ofNat a) bits (mm g s l r) = some (gpF L C q bits a 16, mm g s' l r) ∧ FPs L C q s0 s' := by
  have hR := rnd_b hC
  have ef := c_fill (g := g) (s := s) (l := l) (r := r) (v := 0) k113 n113
  obtain ⟨⟨a0, h96⟩, h30, hf⟩ := h
  have f1 : Fr fQ s (flS s 113 99 0) := flS_fr.mono (fun o ho => by unfold fQ; omega)
  have key : ∃ s', p0_greatestPart_L14 gF (ob g 95) (Int32.ofNat q) (Int32.ofNat a) bits 0 0 (mm g (flS s 113 99 0) l r) = some (gpF L C q bits a 16, mm g s' l r) ∧ FPs L C q s0 s' := by
    refine it_sf (L := fun m (b : Int32 × tS) i => p0_greatestPart_L14 m (ob g 95) (Int32.ofNat q) (Int32.ofNat a) bits b.1 i (mm g b.2 l r)) (R := fun _ b x => b.1 = x.2 ∧ (∀ d, d < 99 → b.2 113 d = x.1 d) ∧ FPs L C q s0 b.2) (f := gpS L C q bits a) (Q := fun B x => ∃ s', B = some (x.2, mm g s' l r) ∧ FPs L C q s0 s') (N := 16) (fun m i b x hi hR => ?_) (fun m b x hR => ?_) 16 gF 0 (0, flS s 113 99 0) (fun _ => 0, 0) (by omega) (gF_gt (by omega)) ⟨rfl, fun d hd => by show flS s 113 99 0 113 d = 0; rw [flS_v, if_pos hd], ⟨a0, h96.fr f1 (fun o ho => by unfold fQ at ho; omega)⟩, h30.fr f1 (fun o ho => by unfold fQ at ho; omega), hf.trans (f1.mono (fun o ho => Or.inr ho))⟩
    · obtain ⟨b1, sb⟩ := b
      obtain ⟨hx, hp, ⟨c0, g96⟩, g30, gf⟩ := hR
      have hx : b1 = x.2 := hx
      have hp : ∀ d, d < 99 → sb 113 d = x.1 d := hp
      have g96 : Is sb 96 (stP C q 0 c0) := g96
      have g30 : LIs sb 30 L := g30
      have gf : Fr fPo s0 sb := gf
      subst hx
      rcases Bool.eq_false_or_eq_true (hasb bits i) with hh | hh
      · have hs := hb i hi hh
        obtain ⟨s1, e1, k96, k30, f2⟩ := c_behind (g := g) (l := l) (r := r) (a := Int32.ofNat a) g96 g30 hV (by have := vc_r hC; omega) hq (show i / 2 < sz C by omega) (show i < 1000 by omega)
        obtain ⟨n1, n2⟩ := abN_ok (sy := i) hV hC hq ha
        rw [n2] at e1
        have d9 : abN L C q a i < 99 := by omega
        have v1 : s1 113 (abN L C q a i) = x.1 (abN L C q a i) := by rw [f2 113 (by unfold inF; omega)]; exact hp _ d9
        have f3 : Fr fQ s1 (up2 s1 113 (abN L C q a i) (x.1 (abN L C q a i) + 1)) := Fr.up (by unfold fQ; omega)
        have es : gpS L C q bits a i x = (up1 x.1 (abN L C q a i) (x.1 (abN L C q a i) + 1), maxI x.2 (x.1 (abN L C q a i) + 1)) := if_pos hh
        refine ⟨(maxI x.2 (x.1 (abN L C q a i) + 1), up2 s1 113 (abN L C q a i) (x.1 (abN L C q a i) + 1)), ⟨by rw [es], fun d hd => ?_, ⟨_, k96.fr f3 (fun o ho => by unfold fQ at ho; omega)⟩, k30.fr f3 (fun o ho => by unfold fQ at ho; omega), (gf.trans (f2.mono (fun o ho => Or.inl ho))).trans (f3.mono (fun o ho => Or.inr ho))⟩, ?_⟩
        · rw [es]
          show up2 s1 113 (abN L C q a i) (x.1 (abN L C q a i) + 1) 113 d = up1 x.1 (abN L C q a i) (x.1 (abN L C q a i) + 1) d
          by_cases c : d = abN L C q a i
          · rw [c, up2_eq, up1_eq]
          · rw [up2_ne (by omega), up1_ne c, f2 113 (by unfold inF; omega)]
            exact hp d hd
        · simp only [p0_greatestPart_L14, lt16 hi, if_true, eh, hh, e1, obs, pl_y d9, one_z, if_false, e_R6, b3_ld d9, v1, b3_st d9, up2_eq, p0_greatestPart_J74, i_succ]
      · have es : gpS L C q bits a i x = x := if_neg (by rw [hh]; decide)
        refine ⟨(x.2, sb), ⟨by rw [es], by rw [es]; exact hp, ⟨c0, g96⟩, g30, gf⟩, ?_⟩
        simp only [p0_greatestPart_L14, lt16 hi, if_true, eh, hh, Bool.false_eq_true, if_false, p0_greatestPart_J74, i_succ]
    · obtain ⟨hx, hp, hF⟩ := hR
      refine ⟨b.2, ?_, hF⟩
      simp only [p0_greatestPart_L14, lt16_n, if_false, hx]
  obtain ⟨s', e2, F2⟩ := key
  refine ⟨s', ?_, F2⟩
  simp only [p0_greatestPart, e_gd, e_R6, obs, ef]
  exact e2
theorem k299 : lK 299 = 20 := by decide +kernel
theorem n299 : lNn 299 = 99 := by decide +kernel
theorem w_R22 : getR (mm g s l r) (ob g 287) 12 22 = some (ob g 299) := mm_getR k287 (by decide +kernel) (by decide)
theorem h3_ld {k : Nat} (hk : k < 99) : aldI (mm g s l r) (ob g 299) 20 (Int32.ofNat k) = some (s 299 k) := mm_aldI k299 n299 hk (by decide)
theorem h3_st {k : Nat} {v : Int32} (hk : k < 99) : astI (mm g s l r) (ob g 299) (Int32.ofNat k) v = some (mm g (up2 s 299 k v) l r) := mm_astI k299 n299 hk (by decide)
def MPq (L : Lw) (C : Co) (s0 s : tS) : Prop := Ms s C ∧ LMs s L ∧ (∀ o, o ≠ 288 → o ≠ 295 → o ≠ 299 → s o = s0 o) ∧ ∀ k, ¬ pC k → s 288 k = s0 288 k
theorem mpq_up {s0 : tS} {k : Nat} {v : Int32} (h : MPq L C s0 s) : MPq L C s0 (up2 s 299 k v) := by
  obtain ⟨h1, h2, h3, h4⟩ := h
  have e : up2 s 299 k v 288 = s 288 := funext fun j => up2_ne (by omega)
  refine ⟨?_, ?_, fun o a b c => ?_, fun j hj => by rw [e]; exact h4 j hj⟩
  · show Mw (up2 s 299 k v 288) C
    rw [e]
    exact h1
  · show LMw (up2 s 299 k v 288) L
    rw [e]
    exact h2
  · rw [← h3 o a b c]
    exact funext fun j => up2_ne (by omega)
theorem mpq_fl {s0 : tS} {k : Nat} {v : Int32} (h : MPq L C s0 s) : MPq L C s0 (flS s 299 k v) := by
  induction k with
  | zero => exact h
  | succ k ih => exact mpq_up ih
theorem m_part {q a : Nat} {bits : Int32} {s0 : tS} (h : MPq L C s0 s) (hV : VL L) (hC : VC C) (hq : q < sz C) (ha : a < rnd C) : ∃ s', p12_partBy (ob g 287) (Int32.ofNat q) (Int32.ofNat a) bits (mm g s l r) = some (gpF L C q bits a (2 * sz C), mm g s' l r) ∧ MPq L C s0 s' := by
  have hR := rnd_b hC
  have h8 := hC.1.2
  have e0 : p12_partBy (ob g 287) (Int32.ofNat q) (Int32.ofNat a) bits (mm g s l r) = p12_partBy_J27 (ob g 287) (Int32.ofNat q) (Int32.ofNat a) bits 0 (mm g (flS s 299 99 0) l r) := by
    rw [p12_partBy, w_gd]
    refine it_up (fun m (b : tS) i => p12_partBy_L6 p12_partBy_J27 m (ob g 287) (Int32.ofNat q) (Int32.ofNat a) bits 0 i (mm g b l r)) 99 (fun i b => up2 b 299 i 0) (fun b => p12_partBy_J27 (ob g 287) (Int32.ofNat q) (Int32.ofNat a) bits 0 (mm g b l r)) (fun m i b hi => ?_) (fun m b => ?_) gF s (gF_gt (by omega))
    · simp only [p12_partBy_L6, lt99 hi, if_true, w_R22, obs, h3_st hi, i_succ]
    · simp only [p12_partBy_L6, lt99n, if_false]
  rw [e0, p12_partBy_J27]
  refine it_sf (L := fun m (b : Int32 × tS) i => p12_partBy_L30 m (ob g 287) (Int32.ofNat q) (Int32.ofNat a) bits b.1 i (mm g b.2 l r)) (R := fun _ b x => b.1 = x.2 ∧ (∀ d, d < 99 → b.2 299 d = x.1 d) ∧ MPq L C s0 b.2) (f := gpS L C q bits a) (Q := fun B x => ∃ s', B = some (x.2, mm g s' l r) ∧ MPq L C s0 s') (N := 2 * sz C) (fun m i b x hi hR => ?_) (fun m b x hR => ?_) (2 * sz C) gF 0 (0, flS s 299 99 0) (fun _ => 0, 0) (by omega) (gF_gt (by omega)) ⟨rfl, fun d hd => by show flS s 299 99 0 299 d = 0; rw [flS_v, if_pos hd], mpq_fl h⟩
  · obtain ⟨b1, sb⟩ := b
    obtain ⟨hx, hp, M1, L1, o1, p1⟩ := hR
    have hx : b1 = x.2 := hx
    have hp : ∀ d, d < 99 → sb 299 d = x.1 d := hp
    have M1 : Ms sb C := M1
    have L1 : LMs sb L := L1
    have o1 : ∀ o, o ≠ 288 → o ≠ 295 → o ≠ 299 → sb o = s0 o := o1
    have p1 : ∀ k, ¬ pC k → sb 288 k = s0 288 k := p1
    subst hx
    have lt := ltNN (show i < 2147483648 by omega) (show 2 * sz C < 2147483648 by omega)
    rcases Bool.eq_false_or_eq_true (hasb bits i) with hh | hh
    · have hcb : 0 ≤ (Int32.ofNat a).toInt ∧ (Int32.ofNat a).toInt < (C.1 4).toInt := by
        rw [hR.2.2, i_toInt (by omega), i_toInt (by omega)]
        omega
      obtain ⟨s1, e1, M2, L2, f2⟩ := m_from (g := g) (l := l) (r := r) (sy := i) M1 L1 hV hC hq (by omega) (by omega) hcb
      obtain ⟨n1, n2⟩ := abN_ok (sy := i) hV hC hq ha
      rw [n2] at e1
      have d9 : abN L C q a i < 99 := by omega
      have v1 : s1 299 (abN L C q a i) = x.1 (abN L C q a i) := by rw [f2.1 299 (by decide) (by decide)]; exact hp _ d9
      have es : gpS L C q bits a i x = (up1 x.1 (abN L C q a i) (x.1 (abN L C q a i) + 1), maxI x.2 (x.1 (abN L C q a i) + 1)) := if_pos hh
      have P2 : MPq L C s0 s1 := ⟨M2, L2, fun o x y z => (f2.1 o x y).trans (o1 o x y z), fun k hk => (f2.2 k hk).trans (p1 k hk)⟩
      refine ⟨(maxI x.2 (x.1 (abN L C q a i) + 1), up2 s1 299 (abN L C q a i) (x.1 (abN L C q a i) + 1)), ⟨by rw [es], fun d hd => ?_, mpq_up P2⟩, ?_⟩
      · rw [es]
        show up2 s1 299 (abN L C q a i) (x.1 (abN L C q a i) + 1) 299 d = up1 x.1 (abN L C q a i) (x.1 (abN L C q a i) + 1) d
        by_cases c : d = abN L C q a i
        · rw [c, up2_eq, up1_eq]
        · rw [up2_ne (by omega), up1_ne c, f2.1 299 (by decide) (by decide)]
          exact hp d hd
      · simp only [p12_partBy_L30, m_people M1, two_sz M1.1, obs, lt, hi, if_true, m_has, hh, ib_t, one_z, if_false, e1, w_R22, h3_ld d9, v1, h3_st d9, up2_eq, p12_partBy_J88, i_succ]
    · have es : gpS L C q bits a i x = x := if_neg (by rw [hh]; decide)
      refine ⟨(x.2, sb), ⟨by rw [es], by rw [es]; exact hp, M1, L1, o1, p1⟩, ?_⟩
      simp only [p12_partBy_L30, m_people M1, two_sz M1.1, obs, lt, hi, if_true, m_has, hh, ib_f, p12_partBy_J88, i_succ]
  · obtain ⟨hx, hp, hM⟩ := hR
    refine ⟨b.2, ?_, hM⟩
    have lt : (Int32.ofNat (2 * sz C) < Int32.ofNat (2 * sz C)) = False := ltk_n
    simp only [p12_partBy_L30, m_people hM.1, two_sz hM.1.1, obs, lt, if_false, hx]
end
