/-- a call of the reference that also writes long cells -/
def OpL (g : Nat) (H : Nat → Int32) (E : mMem → Option ((Nat × mMem) ⊕ (Int32 × mMem))) (Q : mMem → Option (Int32 × mMem)) : Prop := ∀ (s : tS) (l : tL) (r : Nat → Nat), INV s r →
  (∃ e s1 r1 s2 w, E (mm g s l r) = some (.inl (e, mm g s1 l r1)) ∧ (H e ≠ 0) ∧ Q (mm g s1 l r1) = some (w, mm g s2 l r1) ∧ s2 287 0 = H e ∧ INV s2 r1)
  ∨ (∃ v s1 r1, E (mm g s l r) = some (.inr (v, mm g s1 l r1)) ∧ ∀ l1 : tL, ∃ s2 l2, Q (mm g s1 l1 r1) = some (v, mm g s2 l2 r1) ∧ s2 287 0 = 0 ∧ l2 304 0 = l1 304 0 ∧ INV s2 r1)
def BothL (g : Nat) (P : mMem → Option (Int32 × mMem)) (Q : mMem → Option (Int32 × mMem)) : Prop := ∀ (s : tS) (l : tL) (r : Nat → Nat), INV s r → ∃ k w s1 l1 s2 l2 r1, P (mm g s l r) = some (k, mm g s1 l1 r1) ∧ Q (mm g s1 l1 r1) = some (w, mm g s2 l2 r1) ∧ s2 287 0 = k ∧ (k = 0 → l2 304 0 = w.toInt64) ∧ INV s2 r1
theorem both_ofL' {g : Nat} {H : Nat → Int32} {E : mMem → Option ((Nat × mMem) ⊕ Int32)} {Q : mMem → Option (Int32 × mMem)} {hd : Nat → mMem → Option (Int32 × mMem)} (h : OpL g H (fun M => (E M).map (fun z => match z with | .inl e => .inl e | .inr v => .inr (v, M))) Q) (hH : ∀ e M, H e ≠ 0 → hd e M = some (H e, M)) : BothL g (fun M => xc (E M) hd fun v_1 => (astL M (ob g 304) 0 (v_1.toInt64)).bind fun M_2 => some (0, M_2)) Q := by
  intro s l r hI
  rcases h s l r hI with ⟨e, s1, r1, s2, w, h1, h2, h3, h4, h5⟩ | ⟨v, s1, r1, h1, h2⟩
  · have hE : E (mm g s l r) = some (.inl (e, mm g s1 l r1)) := by
      revert h1
      show ((E (mm g s l r)).map _ = _) → _
      cases E (mm g s l r) with
      | none => intro h; cases h
      | some z =>
        cases z with
        | inl z => intro h; cases h; rfl
        | inr z => intro h; cases h
    refine ⟨H e, w, s1, l, s2, l, r1, ?_, h3, h4, fun hc => absurd hc h2, h5⟩
    show xc (E (mm g s l r)) hd _ = _
    rw [hE, xc]
    exact hH e _ h2
  · obtain ⟨s2, l2, h3, h4, h4', h5⟩ := h2 (up2 l 304 0 v.toInt64)
    have hE : E (mm g s l r) = some (.inr v) ∧ mm g s1 l r1 = mm g s l r := by
      revert h1
      show ((E (mm g s l r)).map _ = _) → _
      cases E (mm g s l r) with
      | none => intro h; cases h
      | some z =>
        cases z with
        | inl z => intro h; cases h
        | inr z =>
          intro h
          have h := Option.some.inj h
          have h := Sum.inr.inj h
          have ha := congrArg Prod.fst h
          have hb := congrArg Prod.snd h
          exact ⟨congrArg some (congrArg Sum.inr ha), hb.symm⟩
    refine ⟨0, v, s1, up2 l 304 0 v.toInt64, s2, l2, r1, ?_, h3, h4, fun _ => h4'.trans up2_eq, h5⟩
    show xc (E (mm g s l r)) hd _ = _
    rw [hE.1, xc]
    show (astL (mm g s l r) (ob g 304) 0 v.toInt64).bind _ = _
    rw [← hE.2, o_astL]
    rfl
section
variable {g : Nat} {s : tS} {l : tL} {r : Nat → Nat} {C : Co} {G : Lg} {L : Lw}
/-! ODDS -/
theorem k303 : lK 303 = 22 := by decide +kernel
theorem n303 : lNn 303 = 4 := by decide +kernel
theorem w_R26 : getR (mm g s l r) (ob g 287) 12 26 = some (ob g 303) := mm_getR k287 (by decide +kernel) (by decide)
theorem v_ald {k : Nat} (hk : k < 4) : aldL (mm g s l r) (ob g 303) (Int32.ofNat k) = some (l 303 k) := mm_aldL k303 n303 hk (by decide)
theorem v_ast {k : Nat} {v : Int64} (hk : k < 4) : astL (mm g s l r) (ob g 303) (Int32.ofNat k) v = some (mm g s (up2 l 303 k v) r) := mm_astL k303 n303 hk (by decide)
def pw (y : Int64) (n : Nat) : Int64 := iter (fun _ t => t * y) n 1
def wy (n i : Nat) : Int64 := if i = 0 then 1 else if i = n then 1 else (Int32.ofNat n).toInt64
theorem c_pow {y : Int64} {n : Nat} (hn : n < 100) : p10_power y (Int32.ofNat n) (mm g s l r) = some (pw y n) := by
  rw [p10_power]
  refine it_up (fun m a i => p10_power_L5 (mm g s l r) m y (Int32.ofNat n) a i) n (fun _ t => t * y) some (fun m i a hi => ?_) (fun m a => ?_) gF 1 (gF_gt (by omega))
  · simp only [p10_power_L5, ltk (show n < 2147483648 by omega) hi, if_true, i_succ]
  · simp only [p10_power_L5, ltk_n, if_false]
theorem c_ways {n i : Nat} (hn : n < 100) (hi : i < 100) : p10_ways (Int32.ofNat n) (Int32.ofNat i) (mm g s l r) = some (wy n i) := by
  have e0 : (Int32.ofNat i = 0) = (i = 0) := propext (i_eq (b := 0) (by omega) (by omega))
  have e1 : (Int32.ofNat i = Int32.ofNat n) = (i = n) := propext (i_eq (by omega) (by omega))
  unfold p10_ways wy
  simp only [e0, e1]
  by_cases h0 : i = 0
  · rw [if_pos h0, if_pos h0, p10_ways_J9, p10_ways_J15]
  · rw [if_neg h0, if_neg h0]
    by_cases h1 : i = n
    · rw [if_pos h1, if_pos h1, p10_ways_J9, p10_ways_J15]
    · rw [if_neg h1, if_neg h1, p10_ways_J15]
def stO (C : Co) (p : Nat) : Int64 := iter (fun i y => y + (if gv C i p = true then (C.2 i 6).toInt64 else 0)) (sz C) 0
def allO (C : Co) (p : Nat) : Int64 := 10000 * (Int32.ofNat (ngov C p)).toInt64
def refO (C : Co) (p : Nat) : Int64 := (C.2 p 5).toInt64 * stO C p
def goodC (a f : Int64) (n k : Nat) : Int64 := itF (fun i t => t + wy n i * pw f i * pw (a - f) (n - i)) (n + 1 - k) k 0
theorem tot_ok : ∀ m, m < 9 → 0 < m → ∀ n, n < 4 → 0 < lg_cmp (pw (10000 * (Int32.ofNat m).toInt64) n) 0 ∧ pw (10000 * (Int32.ofNat m).toInt64) n ≠ 0 := by decide +kernel
def odR (C : Co) (p n k : Nat) : Int32 := if ngov C p = 0 then 0 else (10000 * goodC (allO C p) (refO C p) n k / pw (allO C p) n).toInt32
theorem divL_ne {x y : Int64} (h : y ≠ 0) : divL x y = some (x / y) := if_neg h
theorem c_good {a f : Int64} {n k : Nat} {K : Int64 → Int64 → Option Int32} {T : Int64} (hn : n < 4) (hk : k < 4) : p10_chanceOfNo_L139 (mm g s l r) K gF (Int32.ofNat n) a f 0 T (Int32.ofNat k) = K (goodC a f n k) T := by
  have fin : ∀ m t j, n < j → j < 100 → p10_chanceOfNo_L139 (mm g s l r) K (m + 1) (Int32.ofNat n) a f t T (Int32.ofNat j) = K t T := fun m t j hj hj2 => by
    have c : Int32.ofNat n < Int32.ofNat j := (i_lt (by omega) (by omega)).mpr hj
    simp only [p10_chanceOfNo_L139, c, if_true]
  by_cases h : k ≤ n + 1
  · refine it_sf (L := fun m (t : Int64) i => p10_chanceOfNo_L139 (mm g s l r) K m (Int32.ofNat n) a f t T i) (R := fun _ t x => t = x) (f := fun i t => t + wy n i * pw f i * pw (a - f) (n - i)) (Q := fun B x => B = K x T) (N := n + 1) (fun m i t x hi hR => ?_) (fun m t x hR => ?_) (n + 1 - k) gF k 0 0 (by omega) (gF_gt (by omega)) rfl
    · subst hR
      have c : ¬ Int32.ofNat n < Int32.ofNat i := fun c => by
        have := (i_lt (by omega) (by omega)).mp c
        omega
      have es : Int32.ofNat n - Int32.ofNat i = Int32.ofNat (n - i) := by
        apply i_ext
        rw [i_tsub] <;> rw [i_toInt (by omega), i_toInt (by omega)]
        · rw [i_toInt (by omega)]
          omega
        · omega
        · omega
      refine ⟨_, rfl, ?_⟩
      simp only [p10_chanceOfNo_L139, c, if_false, c_ways (show n < 100 by omega) (show i < 100 by omega), c_pow (show i < 100 by omega), es, c_pow (show n - i < 100 by omega), obs, i_succ]
    · subst hR
      exact fin m t (n + 1) (by omega) (by omega)
  · have : goodC a f n k = 0 := by
      unfold goodC
      rw [show n + 1 - k = 0 by omega]
      rfl
    rw [this]
    exact fin (gF - 1) 0 k (by omega) (by omega)
theorem c_odds {p n k : Nat} (h : Is s 2 C) (hC : VC C) (hp : p < sz C) (hn : n < 4) (hk : k < 4) : p10_chanceOfNo (ob g 118) (Int32.ofNat p) (Int32.ofNat n) (Int32.ofNat k) (mm g s l r) = some (odR C p n k) := by
  have ev : (Int32.ofNat (ngov C p) = 0) = (ngov C p = 0) := propext (i_eq (b := 0) (by have := ngov_8 (q := p) hC; omega) (by omega))
  unfold odR
  simp only [p10_chanceOfNo, y_gd, y_R0, obs, c_at h hp, c_p h hp (show 8 < 9 by decide), bc_gov hC hp, ev]
  by_cases h0 : ngov C p = 0
  · rw [if_pos h0, if_pos h0]
  · rw [if_neg h0, if_neg h0]
    obtain ⟨t1, t2⟩ := tot_ok (ngov C p) (by have := ngov_8 (q := p) hC; omega) (by omega) n hn
    have t1 : 0 < lg_cmp (pw (allO C p) n) 0 := t1
    have t2 : pw (allO C p) n ≠ 0 := t2
    refine (it_up (fun m (a : Int64) i => p10_chanceOfNo_L29 (mm g s l r) (p10_chanceOfNo_J82 (mm g s l r)) m (ob g 118) (Int32.ofNat p) (Int32.ofNat n) (Int32.ofNat k) (Int32.ofNat (ngov C p)) a i) (sz C) (fun i y => y + (if gv C i p = true then (C.2 i 6).toInt64 else 0)) (fun a => p10_chanceOfNo_J82 (mm g s l r) (ob g 118) (Int32.ofNat p) (Int32.ofNat n) (Int32.ofNat k) (Int32.ofNat (ngov C p)) a) (fun m i a hi => ?_) (fun m a => ?_) gF 0 (sz_gF h.2.1)).trans ?_
    · rcases Bool.eq_false_or_eq_true (gv C i p) with e | e
      · simp only [p10_chanceOfNo_L29, y_R0, obs, c_n h, zc_yes h.2.1 hi, if_true, c_gov h hi hp, e, ib_t, one_z, if_false, c_at h hi, c_p h hi (show 6 < 9 by decide), p10_chanceOfNo_J73, i_succ]
      · simp only [p10_chanceOfNo_L29, y_R0, obs, c_n h, zc_yes h.2.1 hi, if_true, c_gov h hi hp, e, ib_f, p10_chanceOfNo_J73, i_succ, Bool.false_eq_true, if_false]
    · simp only [p10_chanceOfNo_L29, y_R0, obs, c_n h, zc_no h.2.1, if_false]
    · simp only [p10_chanceOfNo_J82, y_R0, obs, c_at h hp, c_p h hp (show 5 < 9 by decide)]
      refine (it_up (fun m (a : Int64) i => p10_chanceOfNo_L117 (mm g s l r) (p10_chanceOfNo_J136 (mm g s l r)) m (Int32.ofNat n) (Int32.ofNat k) (allO C p) (refO C p) 0 a i) n (fun _ t => t * allO C p) (fun a => p10_chanceOfNo_J136 (mm g s l r) (Int32.ofNat n) (Int32.ofNat k) (allO C p) (refO C p) 0 a) (fun m i a hi => ?_) (fun m a => ?_) gF 1 (gF_gt (by omega))).trans ?_
      · simp only [p10_chanceOfNo_L117, ltk (show n < 2147483648 by omega) hi, if_true, i_succ]
      · simp only [p10_chanceOfNo_L117, ltk_n, if_false]
      · show p10_chanceOfNo_J136 (mm g s l r) (Int32.ofNat n) (Int32.ofNat k) (allO C p) (refO C p) 0 (pw (allO C p) n) = _
        rw [p10_chanceOfNo_J136, c_good hn hk, p10_chanceOfNo_J183, if_pos t1, divL_ne t2, obs, p10_chanceOfNo_J204]
/-! the reference -/
def dyW (a f : Int64) (w : Nat → Int64) (t : Nat) : Int64 := w t * (a - f) + (if t = 0 then 0 else w (t - 1) * f)
def wy0 (t : Nat) : Int64 := if t = 0 then 1 else 0
def wyN (a f : Int64) (n : Nat) : Nat → Int64 := iter (fun _ w => dyW a f w) n wy0
def goodM (a f : Int64) (n k : Nat) : Int64 := itF (fun i t => t + wyN a f n i) (4 - k) k 0
def keepL (l l' : tL) : Prop := l' 304 0 = l 304 0
theorem d3 : ∀ i, i < 4 → ((3 : Int32) - Int32.ofNat i = Int32.ofNat (3 - i) ∧ ¬ (3 : Int32) - Int32.ofNat i < 0) ∧ (3 : Int32) - Int32.ofNat i + (-1) = 3 - Int32.ofNat (i + 1) ∧ (i < 3 → ¬ Int32.ofNat (3 - i) = 0 ∧ Int32.ofNat (3 - i) - 1 = Int32.ofNat (3 - i - 1)) := by decide
theorem m_day {K : Nat → Int32 → Int32 → Int64 → Int64 → Int64 → Int32 → mMem → Option (Int32 × mMem)} {a f t : Int64} {x2 x3 x13 : Int32} {w : Nat → Int64} (hw : ∀ j, j < 4 → l 303 j = w j) : ∃ l', p12_odds_L187 K gF (ob g 287) x2 x3 f a t x13 3 (mm g s l r) = K (ob g 287) x2 x3 f a t x13 (mm g s l' r) ∧ (∀ j, j < 4 → l' 303 j = dyW a f w j) ∧ keepL l l' := by
  refine it_inv (L := fun m (b : tL) i => p12_odds_L187 K m (ob g 287) x2 x3 f a t x13 (3 - i) (mm g s b r)) (P := fun i b => (∀ j, j < 4 → b 303 j = if 4 ≤ j + i then dyW a f w j else w j) ∧ keepL l b) (Q := fun B => ∃ l', B = K (ob g 287) x2 x3 f a t x13 (mm g s l' r) ∧ (∀ j, j < 4 → l' 303 j = dyW a f w j) ∧ keepL l l') (N := 4) (fun m i b hi hP => ?_) (fun m b hP => ?_) 4 gF 0 l (by omega) (gF_gt (by omega)) ⟨fun j hj => by rw [if_neg (by omega)]; exact hw j hj, rfl⟩
  · obtain ⟨h1, h2⟩ := hP
    obtain ⟨⟨q1, q2⟩, q3, q4⟩ := d3 i hi
    have v1 : b 303 (3 - i) = w (3 - i) := by rw [h1 _ (by omega), if_neg (by omega)]
    left
    refine ⟨up2 b 303 (3 - i) (dyW a f w (3 - i)), ⟨fun j hj => ?_, ?_⟩, ?_⟩
    · by_cases e : j = 3 - i
      · subst e
        rw [up2_eq, if_pos (by omega)]
      · rw [up2_ne (by omega), h1 j hj]
        by_cases c : 4 ≤ j + i
        · rw [if_pos c, if_pos (by omega)]
        · rw [if_neg c, if_neg (by omega)]
    · show up2 b 303 _ _ 304 0 = _
      rw [up2_ne (by omega)]
      exact h2
    · show p12_odds_L187 K (m + 1) (ob g 287) x2 x3 f a t x13 (3 - Int32.ofNat i) (mm g s b r) = p12_odds_L187 K m (ob g 287) x2 x3 f a t x13 (3 - Int32.ofNat (i + 1)) _
      rw [← q3]
      rw [q1] at q2 ⊢
      by_cases c : i < 3
      · obtain ⟨q5, q6⟩ := q4 c
        have v2 : b 303 (3 - i - 1) = w (3 - i - 1) := by rw [h1 _ (by omega), if_neg (by omega)]
        have ed : dyW a f w (3 - i) = w (3 - i) * (a - f) + w (3 - i - 1) * f := by rw [dyW, if_neg (by omega)]
        simp only [p12_odds_L187, q2, if_false, w_R26, obs, v_ald (show 3 - i < 4 by omega), v1, q5, q6, v_ald (show 3 - i - 1 < 4 by omega), v2, p12_odds_J232, v_ast (show 3 - i < 4 by omega), ed]
      · have e3 : i = 3 := by omega
        subst e3
        have ed : dyW a f w 0 = w 0 * (a - f) + 0 := by rw [dyW, if_pos rfl]
        have z : Int32.ofNat (3 - 3) = 0 := rfl
        have v1 : b 303 0 = w 0 := v1
        have l0 : aldL (mm g s b r) (ob g 303) 0 = some (b 303 0) := v_ald (k := 0) (by decide)
        have l1 : ∀ {v : Int64}, astL (mm g s b r) (ob g 303) 0 v = some (mm g s (up2 b 303 0 v) r) := v_ast (k := 0) (by decide)
        rw [z] at q2 ⊢
        show p12_odds_L187 K (m + 1) (ob g 287) x2 x3 f a t x13 0 (mm g s b r) = p12_odds_L187 K m (ob g 287) x2 x3 f a t x13 (0 + (-1)) (mm g s (up2 b 303 0 (dyW a f w 0)) r)
        simp only [p12_odds_L187, q2, if_false, w_R26, obs, l0, v1, if_true, p12_odds_J232, l1, ed]
  · obtain ⟨h1, h2⟩ := hP
    refine ⟨b, ?_, fun j hj => by rw [h1 j hj, if_pos (by omega)], h2⟩
    show p12_odds_L187 K (m + 1) (ob g 287) x2 x3 f a t x13 (3 - Int32.ofNat 4) (mm g s b r) = _
    have z : (3 : Int32) - Int32.ofNat 4 < 0 := by decide
    simp only [p12_odds_L187, z, if_true]
theorem lt3n {i : Nat} (h : i < 4) : ((3 : Int32) < Int32.ofNat i) = False := eq_false (fun c => by
  have := (i_lt (a := 3) (b := i) (by decide) (by omega)).mp c
  omega)
theorem lt3y : ((3 : Int32) < Int32.ofNat 4) = True := eq_true (by decide)
theorem m_odds {p n k : Nat} (h : Ms s C) (hC : VC C) (hp : p < sz C) (hn : n < 4) (hk : k < 4) (h0 : ngov C p ≠ 0) : ∃ l', p12_odds_L76 p12_odds_J119 gF (ob g 287) (Int32.ofNat p) (Int32.ofNat n) (Int32.ofNat k) (Int32.ofNat (ngov C p)) 0 0 (mm g s l r) = some ((10000 * goodM (allO C p) (refO C p) n k / pw (allO C p) n).toInt32, mm g s l' r) ∧ keepL l l' := by
  obtain ⟨-, t2⟩ := tot_ok (ngov C p) (by have := ngov_8 (q := p) hC; omega) (by omega) n hn
  have t2 : pw (allO C p) n ≠ 0 := t2
  have s1 : p12_odds_L76 p12_odds_J119 gF (ob g 287) (Int32.ofNat p) (Int32.ofNat n) (Int32.ofNat k) (Int32.ofNat (ngov C p)) 0 0 (mm g s l r) = p12_odds_J119 (ob g 287) (Int32.ofNat p) (Int32.ofNat n) (Int32.ofNat k) (Int32.ofNat (ngov C p)) (stO C p) (mm g s l r) := by
    refine it_up (fun m (a : Int64) i => p12_odds_L76 p12_odds_J119 m (ob g 287) (Int32.ofNat p) (Int32.ofNat n) (Int32.ofNat k) (Int32.ofNat (ngov C p)) a i (mm g s l r)) (sz C) (fun i y => y + (if gv C i p = true then (C.2 i 6).toInt64 else 0)) (fun a => p12_odds_J119 (ob g 287) (Int32.ofNat p) (Int32.ofNat n) (Int32.ofNat k) (Int32.ofNat (ngov C p)) a (mm g s l r)) (fun m i a hi => ?_) (fun m a => ?_) gF 0 (sz_gF h.1)
    · rcases Bool.eq_false_or_eq_true (gv C i p) with e | e
      · simp only [p12_odds_L76, obs, m_people h, zc_yes h.1 hi, if_true, m_gov h hp, e, ib_t, one_z, if_false, m_of6 h hi, p12_odds_J110, i_succ]
      · simp only [p12_odds_L76, obs, m_people h, zc_yes h.1 hi, if_true, m_gov h hp, e, ib_f, p12_odds_J110, i_succ, Bool.false_eq_true, if_false]
    · simp only [p12_odds_L76, obs, m_people h, zc_no h.1, if_false]
  rw [s1, p12_odds_J119, m_of5 h hp, obs]
  show ∃ l', p12_odds_L146 p12_odds_J175 gF (ob g 287) (Int32.ofNat n) (Int32.ofNat k) (refO C p) (allO C p) 1 0 (mm g s l r) = _ ∧ _
  obtain ⟨l1, e1, w1, k1⟩ : ∃ l', p12_odds_L146 p12_odds_J175 gF (ob g 287) (Int32.ofNat n) (Int32.ofNat k) (refO C p) (allO C p) 1 0 (mm g s l r) = p12_odds_J175 (ob g 287) (Int32.ofNat n) (Int32.ofNat k) (refO C p) (allO C p) 1 (mm g s l' r) ∧ (∀ j, j < 4 → l' 303 j = wy0 j) ∧ keepL l l' := by
    refine it_inv (L := fun m (b : tL) i => p12_odds_L146 p12_odds_J175 m (ob g 287) (Int32.ofNat n) (Int32.ofNat k) (refO C p) (allO C p) 1 i (mm g s b r)) (P := fun i b => (∀ j, j < i → b 303 j = wy0 j) ∧ keepL l b) (Q := fun B => ∃ l', B = p12_odds_J175 (ob g 287) (Int32.ofNat n) (Int32.ofNat k) (refO C p) (allO C p) 1 (mm g s l' r) ∧ (∀ j, j < 4 → l' 303 j = wy0 j) ∧ keepL l l') (N := 4) (fun m i b hi hP => ?_) (fun m b hP => ?_) 4 gF 0 l (by omega) (gF_gt (by omega)) ⟨fun j hj => absurd hj (Nat.not_lt_zero j), rfl⟩
    · obtain ⟨h1, h2⟩ := hP
      left
      refine ⟨up2 b 303 i (wy0 i), ⟨fun j hj => ?_, ?_⟩, ?_⟩
      · by_cases e : j = i
        · subst e
          exact up2_eq
        · rw [up2_ne (by omega)]
          exact h1 j (by omega)
      · show up2 b 303 _ _ 304 0 = _
        rw [up2_ne (by omega)]
        exact h2
      · have ez : (Int32.ofNat i = 0) = (i = 0) := propext (i_eq (b := 0) (by omega) (by omega))
        by_cases e : i = 0
        · have e1 : wy0 i = 1 := if_pos e
          simp only [p12_odds_L146, lt3n hi, if_false, w_R26, obs, ez, e1, p12_odds_J168, v_ast hi, i_succ]
          rw [if_pos e]
        · have e1 : wy0 i = 0 := if_neg e
          simp only [p12_odds_L146, lt3n hi, if_false, w_R26, obs, ez, e1, p12_odds_J168, v_ast hi, i_succ]
          rw [if_neg e]
    · obtain ⟨h1, h2⟩ := hP
      refine ⟨b, ?_, h1, h2⟩
      simp only [p12_odds_L146, lt3y, if_true]
  rw [e1, p12_odds_J175]
  obtain ⟨l2, e2, w2, k2⟩ : ∃ l', p12_odds_L178 p12_odds_J253 gF (ob g 287) (Int32.ofNat n) (Int32.ofNat k) (refO C p) (allO C p) 1 0 (mm g s l1 r) = p12_odds_J253 (ob g 287) (Int32.ofNat k) (pw (allO C p) n) (mm g s l' r) ∧ (∀ j, j < 4 → l' 303 j = wyN (allO C p) (refO C p) n j) ∧ keepL l l' := by
    refine it_inv (L := fun m (b : Int64 × tL) i => p12_odds_L178 p12_odds_J253 m (ob g 287) (Int32.ofNat n) (Int32.ofNat k) (refO C p) (allO C p) b.1 i (mm g s b.2 r)) (P := fun i b => b.1 = pw (allO C p) i ∧ (∀ j, j < 4 → b.2 303 j = wyN (allO C p) (refO C p) i j) ∧ keepL l b.2) (Q := fun B => ∃ l', B = p12_odds_J253 (ob g 287) (Int32.ofNat k) (pw (allO C p) n) (mm g s l' r) ∧ (∀ j, j < 4 → l' 303 j = wyN (allO C p) (refO C p) n j) ∧ keepL l l') (N := n) (fun m i b hi hP => ?_) (fun m b hP => ?_) n gF 0 (1, l1) (by omega) (gF_gt (by omega)) ⟨rfl, w1, k1⟩
    · obtain ⟨b1, b2⟩ := b
      obtain ⟨h1, h2, h3⟩ := hP
      have h1 : b1 = pw (allO C p) i := h1
      subst h1
      left
      obtain ⟨l', e', w', k'⟩ := m_day (g := g) (s := s) (r := r) (K := p12_odds_J240 (p12_odds_L178 p12_odds_J253 m)) (a := allO C p) (f := refO C p) (t := pw (allO C p) i) (x2 := Int32.ofNat n) (x3 := Int32.ofNat k) (x13 := Int32.ofNat i) h2
      refine ⟨(pw (allO C p) i * allO C p, l'), ⟨rfl, w', k'.trans h3⟩, ?_⟩
      simp only [p12_odds_L178, ltk (show n < 2147483648 by omega) hi, if_true, e', p12_odds_J240, i_succ]
    · obtain ⟨h1, h2, h3⟩ := hP
      refine ⟨b.2, ?_, h2, h3⟩
      simp only [p12_odds_L178, ltk_n, if_false, h1]
  rw [e2, p12_odds_J253]
  refine ⟨l2, ?_, k2⟩
  refine it_sf (L := fun m (t : Int64) i => p12_odds_L259 m (ob g 287) (pw (allO C p) n) t i (mm g s l2 r)) (R := fun _ t x => t = x) (f := fun i t => t + wyN (allO C p) (refO C p) n i) (Q := fun B x => B = some ((10000 * x / pw (allO C p) n).toInt32, mm g s l2 r)) (N := 4) (fun m i t x hi hR => ?_) (fun m t x hR => ?_) (4 - k) gF k 0 0 (by omega) (gF_gt (by omega)) rfl
  · subst hR
    refine ⟨_, rfl, ?_⟩
    simp only [p12_odds_L259, lt3n hi, if_false, w_R26, obs, v_ald hi, w2 i hi, i_succ]
  · subst hR
    simp only [p12_odds_L259, lt3y, if_true, divL_ne t2, obs]
theorem c2_64 : (Int32.ofNat 2).toInt64 = 2 := by decide
theorem c3_64 : (Int32.ofNat 3).toInt64 = 3 := by decide
theorem od_eq {a f : Int64} : ∀ n, n < 4 → ∀ k, k < 4 → goodC a f n k = goodM a f n k := by
  intro n hn k hk
  have hn : n = 0 ∨ n = 1 ∨ n = 2 ∨ n = 3 := by omega
  have hk : k = 0 ∨ k = 1 ∨ k = 2 ∨ k = 3 := by omega
  rcases hn with rfl | rfl | rfl | rfl <;> rcases hk with rfl | rfl | rfl | rfl <;> simp [goodC, goodM, itF, wy, pw, iter, wyN, dyW, wy0, c2_64, c3_64] <;> grind
theorem op_odds {x1 x2 x3 : Int32} : OpL g H_odds (fun M => (p11_odds (ob g 0) x1 x2 x3 M).map (fun z => match z with | .inl e => .inl e | .inr v => .inr (v, M))) (fun M => p12_odds (ob g 287) x1 x2 x3 M) := by
  intro s l r hI
  obtain ⟨C, G, L, n, p, hc, ht, hp, hk, hr⟩ := id hI
  have h1 := hc.1.1
  have hC := hc.1.2.2.2.2.1
  have M1 := m287 hc.1.2.2.1 (v := 0)
  rcases Bool.eq_false_or_eq_true (inR C x1) with hx | hx
  · obtain ⟨i, hi, rfl⟩ := inR_i h1.2.1 hx
    rcases Bool.eq_false_or_eq_true (inL 0 3 x2) with hy | hy
    · rcases Bool.eq_false_or_eq_true (inL 0 3 x3) with hz | hz
      · obtain ⟨n, hn, rfl⟩ := inL_nat (n := 3) (by omega) hy
        obtain ⟨k, hk, rfl⟩ := inL_nat (n := 3) (by omega) hz
        refine Or.inr ⟨odR C i n k, s, r, ?_, fun l1 => ?_⟩
        · simp only [p11_odds, a_gd, a_be_t h1 hx, a_lie_t hy, a_lie_t hz, xb, a_R17, obs, c_odds h1 hC hi (show n < 4 by omega) (show k < 4 by omega), xr, Option.map_some]
        · have ev : (Int32.ofNat (ngov C i) = 0) = (ngov C i = 0) := propext (i_eq (b := 0) (by have := ngov_8 (q := i) hC; omega) (by omega))
          by_cases h0 : ngov C i = 0
          · refine ⟨up2 s 287 0 0, l1, ?_, up2_eq, rfl, hI.rs rs_thr⟩
            simp only [p12_odds, w_gd, w_putI, obs, m_nob_t M1 hx, m_th0, if_true, m_in, hy, hz, ib_t, one_z, if_false, p12_odds_J42, m_of8 M1 hi, bc_gov hC hi, ev]
            rw [if_pos h0, odR, if_pos h0]
          · obtain ⟨l2, e2, k2⟩ := m_odds (g := g) (l := l1) (r := r) (n := n) (k := k) M1 hC hi (by omega) (by omega) h0
            refine ⟨up2 s 287 0 0, l2, ?_, up2_eq, k2, hI.rs rs_thr⟩
            simp only [p12_odds, w_gd, w_putI, obs, m_nob_t M1 hx, m_th0, if_true, m_in, hy, hz, ib_t, one_z, if_false, p12_odds_J42, m_of8 M1 hi, bc_gov hC hi, ev]
            rw [if_neg h0, e2, odR, if_neg h0, od_eq n (by omega) k (by omega)]
      · refine Or.inl ⟨0, s, r, up2 (up2 s 287 0 0) 287 0 2, 0, ?_, by decide, ?_, up2_eq, hI.rs rs_thr2⟩
        · simp only [p11_odds, a_gd, a_be_t h1 hx, a_lie_t hy, a_lie_f hz, xb, Option.map_some]
        · simp only [p12_odds, w_gd, w_putI, obs, m_nob_t M1 hx, m_th0, if_true, m_in, hy, hz, ib_t, ib_f, one_z, if_false, p12_odds_J37, p12_odds_J42, m_th1, p12_odds_J49]
    · refine Or.inl ⟨0, s, r, up2 (up2 s 287 0 0) 287 0 2, 0, ?_, by decide, ?_, up2_eq, hI.rs rs_thr2⟩
      · simp only [p11_odds, a_gd, a_be_t h1 hx, a_lie_f hy, xb, Option.map_some]
      · simp only [p12_odds, w_gd, w_putI, obs, m_nob_t M1 hx, m_th0, if_true, m_in, hy, ib_f, one_z, if_false, p12_odds_J37, p12_odds_J42, m_th1, p12_odds_J49]
  · refine Or.inl ⟨2, s, r, up2 (up2 s 287 0 0) 287 0 1, 0, ?_, by decide, ?_, up2_eq, hI.rs rs_thr2⟩
    · simp only [p11_odds, a_gd, a_be_f (k := 0) h1 hx, xb, Option.map_some]
    · simp only [p12_odds, w_gd, w_putI, obs, m_nob_f M1 hx, m_th1, one_z, if_false, p12_odds_J49]
end
