section
variable {g : Nat} {s : tS} {l : tL} {r : Nat → Nat} {C : Co} {G : Lg} {L : Lw}
/-! rows of one number -/
def flS (s : tS) (o n : Nat) (v : Int32) : tS := iter (fun i a => up2 a o i v) n s
theorem flS_o {o n p : Nat} {v : Int32} (h : p ≠ o) : flS s o n v p = s p := by
  induction n with
  | zero => rfl
  | succ n ih =>
    show up2 (flS s o n v) o n v p = s p
    rw [← ih]
    exact funext fun j => up2_ne (by omega)
theorem flS_v {o j : Nat} {v : Int32} : ∀ n, flS s o n v o j = if j < n then v else s o j := by
  intro n
  induction n with
  | zero => rw [if_neg (by omega)]; rfl
  | succ n ih =>
    show up2 (flS s o n v) o n v o j = _
    by_cases e : j = n
    · subst e
      rw [up2_eq, if_pos (by omega)]
    · rw [up2_ne (by omega), ih]
      by_cases c : j < n
      · rw [if_pos c, if_pos (by omega)]
      · rw [if_neg c, if_neg (by omega)]
theorem flS_fr {o n : Nat} {v : Int32} : Fr (fun p => p = o) s (flS s o n v) := fun p hp => flS_o hp
theorem lt99n : ((Int32.ofNat 99 : Int32) < 99) = False := eq_false (by decide)
theorem c_fill {o : Nat} {v : Int32} (hk : lK o = 20) (hn : lNn o = 99) : pJ7_fill (ob g o) v (mm g s l r) = some (mm g (flS s o 99 v) l r) := by
  have hl : lenA (mm g s l r) (ob g o) = some 99 := by rw [mm_lenA (by rw [hk]; decide), hn]; rfl
  rw [pJ7_fill, hl, obs]
  refine it_up (fun m (a : tS) i => pJ7_fill_L5 m (ob g o) v i 99 (mm g a l r)) 99 (fun i a => up2 a o i v) (fun a => some (mm g a l r)) (fun m i a hi => ?_) (fun m a => ?_) gF s (gF_gt (by omega))
  · have : astI (mm g a l r) (ob g o) (Int32.ofNat i) v = some (mm g (up2 a o i v) l r) := mm_astI hk hn hi (by decide)
    simp only [pJ7_fill_L5, lt99 hi, if_true, this, obs, i_succ]
  · simp only [pJ7_fill_L5, lt99n, if_false]
/-! the class -/
def fulX (L : Lw) (C : Co) (q a : Nat) : Bf := lpx (lpO L C q) id 100 0 (fdF a 0 (-1) e0X)
theorem ltNN {i k : Nat} (h1 : i < 2147483648) (h2 : k < 2147483648) : (Int32.ofNat i < Int32.ofNat k) = (i < k) := propext (i_lt h1 h2)
theorem c_outer {q : Nat} {s0 : tS} {X : Bf} (hV : VL L) (hC : VC C) (hq : q < sz C) (h : CBs L C q s0 s X) (hb : bK (rnd C) 0 X) : ∃ s', p0_reachFrom_L43 gF (ob g 95) (Int32.ofNat q) 0 (mm g s l r) = some (mm g s' l r) ∧ CBs L C q s0 s' (lpx (lpO L C q) id 100 0 X) ∧ bI (rnd C) (lpx (lpO L C q) id 100 0 X) := by
  refine it_sx (L := fun n (a : tS) i => p0_reachFrom_L43 n (ob g 95) (Int32.ofNat q) i (mm g a l r)) (R := fun k a X => CBs L C q s0 a X ∧ bK (rnd C) k X) (Q := fun B Y => ∃ s', B = some (mm g s' l r) ∧ CBs L C q s0 s' Y ∧ bI (rnd C) Y) (f := lpO L C q) (K := id) (N := 100) (fun n k a x hk hR => ?_) (fun n a x hR => ?_) 100 gF 0 s X (by omega) (gF_gt (by omega)) ⟨h, hb⟩
  · obtain ⟨hc, hx⟩ := hR
    have hn := bI_le hx.1
    have e7 : a 95 7 = Int32.ofNat x.2.2.2 := hc.2.2.2.1.2.2.2
    have lt := ltNN (show k < 2147483648 by omega) (show x.2.2.2 < 2147483648 by omega)
    by_cases c : k < x.2.2.2
    · obtain ⟨e, u⟩ := hx.2 c
      obtain ⟨s', e1, c1⟩ := c_inner (g := g) (l := l) (r := r) (n := n) hV hC hq hc hx.1 u
      rw [in_16 hC.1.2] at c1
      left
      refine ⟨ouF L C q k x, s', if_pos c, ⟨c1, (bK_next hV hC hq hx.1 u).1⟩, ?_⟩
      have e2 : a 112 k = Int32.ofNat (x.2.2.1 k) := hc.2.2.2.1.2.2.1 k c
      simp only [p0_reachFrom_L43, e_I, e7, obs, lt, c, if_true, e_R5, b2_len, lt99 (show k < 99 by omega), b2_ld (show k < 99 by omega), e2]
      exact e1
    · right
      refine ⟨x, if_neg c, a, ?_, hc, hx.1⟩
      simp only [p0_reachFrom_L43, e_I, e7, obs, lt, c, if_false, p0_reachFrom_J141]
  · obtain ⟨hc, hx⟩ := hR
    have hn := bI_le hx.1
    have e7 : a 95 7 = Int32.ofNat x.2.2.2 := hc.2.2.2.1.2.2.2
    have lt := ltNN (show 100 < 2147483648 by omega) (show x.2.2.2 < 2147483648 by omega)
    have c : ¬ 100 < x.2.2.2 := by omega
    refine ⟨a, ?_, hc, hx.1⟩
    simp only [p0_reachFrom_L43, e_I, e7, obs, lt, c, if_false, p0_reachFrom_J141]
theorem cbs_rs {q : Nat} {s' : tS} {X : Bf} (h : CBs L C q s s' X) : RS s s' := by
  obtain ⟨⟨a0, h96⟩, -, -, -, f⟩ := h
  refine ⟨fun o k ho => by rw [f o (fun hp => ho (by unfold fPo inF fQ at hp; unfold scr; omega))], fun z => z.rs (f _ (by unfold fPo inF fQ; omega)), fun z => z.rs (f _ (by unfold fPo inF fQ; omega)), fun _ => h96.2.2.2.2.2.2⟩
theorem c_from {q a : Nat} (hc : Core s C G L) (hr : Rest s) (hq : q < sz C) (ha : C.2 q 0 = Int32.ofNat a) (haR : a < rnd C) : ∃ s', p0_reachFrom (ob g 95) (Int32.ofNat q) (mm g s l r) = some (mm g s' l r) ∧ CBs L C q s s' (fulX L C q a) ∧ bI (rnd C) (fulX L C q a) := by
  have hC := hc.1.2.2.2.2.1
  have hR := rnd_b hC
  obtain ⟨s1, e1, I1, -, f1⟩ := c_take (g := g) (l := l) (r := r) (d := 96) (c := 2) (by decide) (by decide) hc.1.1 hc.1.2.1 hr.2.2.1
  have f1' : Fr fPo s s1 := f1.mono (fun o ho => by unfold fPo inF; omega)
  have ef := c_fill (g := g) (s := s1) (l := l) (r := r) (v := -1) k110 n110
  have f2 : Fr fPo s1 (flS s1 110 99 (-1)) := flS_fr.mono (fun o ho => by unfold fPo fQ; omega)
  have f3 : Fr fPo (flS s1 110 99 (-1)) (up2 (flS s1 110 99 (-1)) 95 7 0) := Fr.up (by unfold fPo fQ; omega)
  have f23 : Fr fQ s1 (up2 (flS s1 110 99 (-1)) 95 7 0) := (flS_fr.mono (fun o ho => by unfold fQ; omega)).trans (Fr.up (by unfold fQ; omega))
  have fall := (f1'.trans f2).trans f3
  have I2 : Is (up2 (flS s1 110 99 (-1)) 95 7 0) 2 C := hc.1.1.fr fall (fun o ho => by unfold fPo inF fQ at ho; omega)
  have I96 : Is (up2 (flS s1 110 99 (-1)) 95 7 0) 96 (stP C q 0 (C.2 q 0)) := by
    rw [setP_same]
    exact I1.fr f23 (fun o ho => by unfold fQ at ho; omega)
  have L30 : LIs (up2 (flS s1 110 99 (-1)) 95 7 0) 30 L := hc.2.1.fr fall (fun o ho => by unfold fPo inF fQ at ho; omega)
  have cb0 : cB (up2 (flS s1 110 99 (-1)) 95 7 0) e0X := ⟨fun b hb => by rw [up2_ne (by omega), flS_v, if_pos hb]; rfl, fun b _ h => absurd rfl h, fun i hi => absurd hi (Nat.not_lt_zero i), up2_eq⟩
  obtain ⟨s3, e3, cb3, f3'⟩ := c_reach (g := g) (l := l) (r := r) (a := a) (st := 0) (le := -1) cb0 (by omega) (by omega) (fun _ => by decide) (fun d hd => by cases hd)
  have h3 : CBs L C q s s3 (fdF a 0 (-1) e0X) := ⟨⟨_, I96.fr f3' (fun o ho => by unfold fQ at ho; omega)⟩, I2.fr f3' (fun o ho => by unfold fQ at ho; omega), L30.fr f3' (fun o ho => by unfold fQ at ho; omega), cb3, fall.trans (f3'.mono (fun o ho => Or.inr ho))⟩
  obtain ⟨s4, e4, h4, b4⟩ := c_outer (g := g) (l := l) (r := r) hc.2.2.2 hC hq h3 (bK_0 haR hR.2.1)
  refine ⟨s4, ?_, h4, b4⟩
  have e3 : p0_reach (ob g 95) (Int32.ofNat a) 0 (-1) (mm g (up2 (flS s1 110 99 (-1)) 95 7 0) l r) = some (mm g s3 l r) := e3
  simp only [p0_reachFrom, e_gd, e_R2, e_R0, obs, e1, e_R3, ef, e_P, c_at I2 hq, c_p I2 hq (show 0 < 9 by decide), ha, e3]
  exact e4
def firV (X : Bf) (a : Nat) : Int32 := match X.1 a with | none => -1 | some d => if d = 0 then -1 else X.2.1 a
theorem c_steps {q a x : Nat} (hc : Core s C G L) (hr : Rest s) (hq : q < sz C) (ha : C.2 q 0 = Int32.ofNat a) (haR : a < rnd C) (hx : x < rnd C) : ∃ s', p0_stepsTo (ob g 95) (Int32.ofNat q) (Int32.ofNat x) (mm g s l r) = some (encB ((fulX L C q a).1 x), mm g s' l r) ∧ RS s s' := by
  have hR := rnd_b hc.1.2.2.2.2.1
  obtain ⟨s1, e1, h1, b1⟩ := c_from (g := g) (l := l) (r := r) hc hr hq ha haR
  refine ⟨s1, ?_, cbs_rs h1⟩
  have v : s1 110 x = encB ((fulX L C q a).1 x) := h1.2.2.2.1.1 x (by omega)
  simp only [p0_stepsTo, e_gd, e1, obs, pl_y (show x < 99 by omega), one_z, if_false, e_R3, b0_ld (show x < 99 by omega), v, p0_stepsTo_J22]
theorem c_first {q a x : Nat} (hc : Core s C G L) (hr : Rest s) (hq : q < sz C) (ha : C.2 q 0 = Int32.ofNat a) (haR : a < rnd C) (hx : x < rnd C) : ∃ s', p0_firstTo (ob g 95) (Int32.ofNat q) (Int32.ofNat x) (mm g s l r) = some (firV (fulX L C q a) x, mm g s' l r) ∧ RS s s' := by
  have hR := rnd_b hc.1.2.2.2.2.1
  obtain ⟨s1, e1, h1, b1⟩ := c_from (g := g) (l := l) (r := r) hc hr hq ha haR
  refine ⟨s1, ?_, cbs_rs h1⟩
  have hx9 : x < 99 := by omega
  have v : s1 110 x = encB ((fulX L C q a).1 x) := h1.2.2.2.1.1 x hx9
  unfold firV
  cases hX : (fulX L C q a).1 x with
  | none =>
    rw [hX] at v
    have v : s1 110 x = -1 := v
    have z : ¬ (0 : Int32) < -1 := by decide
    simp only [p0_firstTo, e_gd, e1, obs, pl_y hx9, one_z, if_false, e_R3, b0_ld hx9, v, z, p0_firstTo_J31, p0_firstTo_J30, p0_firstTo]
  | some d =>
    rw [hX] at v
    have v : s1 110 x = Int32.ofNat d := v
    have hd := (b1.2.2.1 x d hX).2
    have lt : ((0 : Int32) < Int32.ofNat d) = (0 < d) := propext (i_lt (a := 0) (by omega) (by omega))
    by_cases e : d = 0
    · have n : ¬ 0 < d := by omega
      simp only [p0_firstTo, e_gd, e1, obs, pl_y hx9, one_z, if_false, e_R3, b0_ld hx9, v, lt, n, p0_firstTo_J31, p0_firstTo_J30, p0_firstTo]
      rw [if_pos e]
    · have n : 0 < d := by omega
      have w : s1 111 x = (fulX L C q a).2.1 x := h1.2.2.2.1.2.1 x hx9 (by rw [hX]; exact Option.some_ne_none d)
      simp only [p0_firstTo, e_gd, e1, obs, pl_y hx9, one_z, if_false, e_R3, e_R4, b0_ld hx9, b1_ld hx9, v, w, lt, n, if_true, p0_firstTo_J31, p0_firstTo_J30, p0_firstTo]
      rw [if_neg e]
theorem cnt_snoc {f : Bs} : ∀ k i, cnt f (k + 1) i = cnt f k i + (if f (i + k) = true then 1 else 0) := by
  intro k
  induction k with
  | zero =>
    intro i
    show (if f i = true then 1 else 0) + 0 = 0 + (if f (i + 0) = true then 1 else 0)
    rw [Nat.add_zero, Nat.zero_add]
    rfl
  | succ k ih =>
    intro i
    show (if f i = true then 1 else 0) + cnt f (k + 1) (i + 1) = ((if f i = true then 1 else 0) + cnt f k (i + 1)) + _
    rw [ih, show i + 1 + k = i + (k + 1) by omega, Nat.add_assoc]
theorem cnt_it {f : Bs} : ∀ n, iter (fun i (c : Int32) => if f i = true then c + 1 else c) n 0 = Int32.ofNat (cnt f n 0) := by
  intro n
  induction n with
  | zero => rfl
  | succ n ih =>
    show (if f n = true then iter _ n 0 + 1 else iter _ n 0) = _
    rw [ih, cnt_snoc, Nat.zero_add]
    rcases Bool.eq_false_or_eq_true (f n) with e | e
    · rw [e, if_pos rfl, if_pos rfl, i_succ]
    · rw [e, if_neg (by decide), if_neg (by decide)]
      rfl
theorem c_within {q a m : Nat} (hc : Core s C G L) (hr : Rest s) (hq : q < sz C) (ha : C.2 q 0 = Int32.ofNat a) (haR : a < rnd C) (hm : m ≤ 20) : ∃ s', p0_within (ob g 95) (Int32.ofNat q) (Int32.ofNat m) (mm g s l r) = some (Int32.ofNat (cnt (leM m (fulX L C q a)) 99 0), mm g s' l r) ∧ RS s s' := by
  obtain ⟨s1, e1, h1, b1⟩ := c_from (g := g) (l := l) (r := r) hc hr hq ha haR
  refine ⟨s1, ?_, cbs_rs h1⟩
  rw [p0_within, e_gd, e1, obs, ← cnt_it]
  refine it_up (fun n a i => p0_within_L10 n (ob g 95) (Int32.ofNat m) a i (mm g s1 l r)) 99 (fun i c => if leM m (fulX L C q a) i = true then c + 1 else c) (fun a => some (a, mm g s1 l r)) (fun n i b hi => ?_) (fun n b => ?_) gF 0 (gF_gt (by omega))
  · have v : s1 110 i = encB ((fulX L C q a).1 i) := h1.2.2.2.1.1 i hi
    unfold leM
    cases hX : (fulX L C q a).1 i with
    | none =>
      rw [hX] at v
      have v : s1 110 i = -1 := v
      simp only [p0_within_L10, e_R3, b0_len, obs, lt99 hi, if_true, b0_ld hi, v, p0_within_J45, i_succ, Bool.false_eq_true, if_false]
    | some d =>
      rw [hX] at v
      have v : s1 110 i = Int32.ofNat d := v
      have hd := (b1.2.2.1 i d hX).2
      have lt := ltNN (show m < 2147483648 by omega) (show d < 2147483648 by omega)
      by_cases e : d ≤ m
      · have n1 : ¬ m < d := by omega
        simp only [p0_within_L10, e_R3, b0_len, obs, lt99 hi, if_true, b0_ld hi, v, nmN (show d < 2147483648 by omega), if_false, lt, n1, p0_within_J45, i_succ, decide_eq_true e]
      · have n1 : m < d := by omega
        simp only [p0_within_L10, e_R3, b0_len, obs, lt99 hi, if_true, b0_ld hi, v, nmN (show d < 2147483648 by omega), if_false, lt, n1, p0_within_J45, i_succ, decide_eq_false e, Bool.false_eq_true]
  · simp only [p0_within_L10, e_R3, b0_len, obs, lt99n, if_false]
/-! the reference -/
theorem k296 : lK 296 = 20 := by decide +kernel
theorem k297 : lK 297 = 20 := by decide +kernel
theorem k298 : lK 298 = 20 := by decide +kernel
theorem n296 : lNn 296 = 99 := by decide +kernel
theorem n297 : lNn 297 = 99 := by decide +kernel
theorem n298 : lNn 298 = 99 := by decide +kernel
theorem w_R18 : getR (mm g s l r) (ob g 287) 12 18 = some (ob g 296) := mm_getR k287 (by decide +kernel) (by decide)
theorem w_R19 : getR (mm g s l r) (ob g 287) 12 19 = some (ob g 297) := mm_getR k287 (by decide +kernel) (by decide)
theorem w_R20 : getR (mm g s l r) (ob g 287) 12 20 = some (ob g 298) := mm_getR k287 (by decide +kernel) (by decide)
theorem h0_ld {k : Nat} (hk : k < 99) : aldI (mm g s l r) (ob g 296) 20 (Int32.ofNat k) = some (s 296 k) := mm_aldI k296 n296 hk (by decide)
theorem h1_ld {k : Nat} (hk : k < 99) : aldI (mm g s l r) (ob g 297) 20 (Int32.ofNat k) = some (s 297 k) := mm_aldI k297 n297 hk (by decide)
theorem h2_ld {k : Nat} (hk : k < 99) : aldI (mm g s l r) (ob g 298) 20 (Int32.ofNat k) = some (s 298 k) := mm_aldI k298 n298 hk (by decide)
theorem h0_st {k : Nat} {v : Int32} (hk : k < 99) : astI (mm g s l r) (ob g 296) (Int32.ofNat k) v = some (mm g (up2 s 296 k v) l r) := mm_astI k296 n296 hk (by decide)
theorem h1_st {k : Nat} {v : Int32} (hk : k < 99) : astI (mm g s l r) (ob g 297) (Int32.ofNat k) v = some (mm g (up2 s 297 k v) l r) := mm_astI k297 n297 hk (by decide)
theorem h2_st {k : Nat} {v : Int32} (hk : k < 99) : astI (mm g s l r) (ob g 298) (Int32.ofNat k) v = some (mm g (up2 s 298 k v) l r) := mm_astI k298 n298 hk (by decide)
theorem m_up287 {k : Nat} {v : Int32} (h : Ms s C) : Ms (up2 s 287 k v) C := h.up (by decide)
def mB (s : tS) (X : Bf) : Prop := (∀ a, a < 99 → s 296 a = encB (X.1 a)) ∧ (∀ a, a < 99 → X.1 a ≠ none → s 297 a = X.2.1 a) ∧ (∀ i, i < X.2.2.2 → s 298 i = Int32.ofNat (X.2.2.1 i)) ∧ s 287 21 = Int32.ofNat X.2.2.2
def mQ (o k : Nat) : Prop := (o = 287 ∧ k = 21) ∨ (296 ≤ o ∧ o ≤ 298)
theorem m_finds {a st : Nat} {le : Int32} {X : Bf} (h : mB s X) (ha : a < 99) (hst : st < 1000) (hn : X.1 a = none → X.2.2.2 < 99) (hd : ∀ d, X.1 a = some d → d < 1000) : ∃ s', p12_finds (ob g 287) (Int32.ofNat a) (Int32.ofNat st) le (mm g s l r) = some (mm g s' l r) ∧ mB s' (fdF a st le X) ∧ ∀ o k, ¬ mQ o k → s' o k = s o k := by
  obtain ⟨a1, a2, a3, a4⟩ := h
  cases hX : X.1 a with
  | none =>
    have hl := hn hX
    rw [fd_n hX]
    have v1 : s 296 a = -1 := by rw [a1 a ha, hX]; rfl
    have v2 : ∀ {x y : Int32}, up2 (up2 s 296 a x) 297 a y 287 21 = Int32.ofNat X.2.2.2 := fun {x y} => by rw [up2_ne (by omega), up2_ne (by omega), a4]
    have v3 : ∀ {x y z : Int32}, up2 (up2 (up2 s 296 a x) 297 a y) 298 X.2.2.2 z 287 21 = Int32.ofNat X.2.2.2 := fun {x y z} => by rw [up2_ne (by omega), up2_ne (by omega), up2_ne (by omega), a4]
    refine ⟨up2 (up2 (up2 (up2 s 296 a (Int32.ofNat st)) 297 a le) 298 X.2.2.2 (Int32.ofNat a)) 287 21 (Int32.ofNat (X.2.2.2 + 1)), ?_, ⟨fun b hb => ?_, fun b hb hb' => ?_, fun i hi => ?_, up2_eq⟩, fun o k hk => ?_⟩
    · simp only [p12_finds, w_gd, w_R18, w_R19, w_R20, obs, h0_ld ha, v1, if_true, h0_st ha, h1_st ha, w_getI, v2, h2_st hl, v3, i_succ, w_putI, p12_finds_J73]
    · show up2 _ 287 21 _ 296 b = encB (up1 X.1 a (some st) b)
      rw [up2_ne (by omega), up2_ne (by omega), up2_ne (by omega)]
      by_cases c : b = a
      · subst c
        rw [up2_eq, up1_eq]
        rfl
      · rw [up2_ne (by omega), up1_ne c]
        exact a1 b hb
    · show up2 _ 287 21 _ 297 b = up1 X.2.1 a le b
      have hb' : up1 X.1 a (some st) b ≠ none := hb'
      rw [up2_ne (by omega), up2_ne (by omega)]
      by_cases c : b = a
      · subst c
        rw [up2_eq, up1_eq]
      · rw [up2_ne (by omega), up2_ne (by omega), up1_ne c]
        rw [up1_ne c] at hb'
        exact a2 b hb hb'
    · have hi : i < X.2.2.2 + 1 := hi
      show up2 _ 287 21 _ 298 i = Int32.ofNat (up1 X.2.2.1 X.2.2.2 a i)
      rw [up2_ne (by omega)]
      by_cases c : i = X.2.2.2
      · subst c
        rw [up2_eq, up1_eq]
      · rw [up2_ne (by omega), up2_ne (by omega), up2_ne (by omega), up1_ne c]
        exact a3 i (by omega)
    · unfold mQ at hk
      rw [up2_ne (by omega), up2_ne (by omega), up2_ne (by omega), up2_ne (by omega)]
  | some d =>
    have hd' := hd d hX
    have v1 : s 296 a = Int32.ofNat d := by rw [a1 a ha, hX]; rfl
    have n1 : (Int32.ofNat d = -1) = False := nmN (by omega)
    have e1 : (Int32.ofNat d = Int32.ofNat st) = (d = st) := propext (i_eq (by omega) (by omega))
    have v2 : s 297 a = X.2.1 a := a2 a ha (by rw [hX]; exact Option.some_ne_none d)
    by_cases e : d = st
    · subst e
      rw [fd_e hX]
      refine ⟨up2 s 297 a (minI (X.2.1 a) le), ?_, ⟨fun b hb => ?_, fun b hb hb' => ?_, fun i hi => ?_, ?_⟩, fun o k hk => ?_⟩
      · simp only [p12_finds, w_gd, w_R18, w_R19, obs, h0_ld ha, v1, n1, if_false, if_true, h1_ld ha, v2, h1_st ha, p12_finds_J73]
      · rw [up2_ne (by omega)]
        exact a1 b hb
      · show up2 s 297 a _ 297 b = up1 X.2.1 a (minI (X.2.1 a) le) b
        by_cases c : b = a
        · subst c
          rw [up2_eq, up1_eq]
        · rw [up2_ne (by omega), up1_ne c]
          exact a2 b hb hb'
      · rw [up2_ne (by omega)]
        exact a3 i hi
      · rw [up2_ne (by omega)]
        exact a4
      · unfold mQ at hk
        exact up2_ne (by omega)
    · rw [fd_d hX e]
      refine ⟨s, ?_, ⟨a1, a2, a3, a4⟩, fun _ _ _ => rfl⟩
      simp only [p12_finds, w_gd, w_R18, obs, h0_ld ha, v1, n1, if_false, e1, e, p12_finds_J73]
def MBs (L : Lw) (C : Co) (s0 s : tS) (X : Bf) : Prop := Ms s C ∧ LMs s L ∧ mB s X ∧ (∀ o k, o ≠ 288 → o ≠ 295 → ¬ mQ o k → s o k = s0 o k) ∧ ∀ k, ¬ pC k → s 288 k = s0 288 k
theorem two_sz (h : Zc C) : (2 : Int32) * C.1 0 = Int32.ofNat (2 * sz C) := by
  rw [h.1, show (2 : Int32) = Int32.ofNat 2 from rfl, i_mul]
theorem cs_in {q i : Nat} (h : i < 2 * sz C) : csB C q i = gv C (i / 2) q := by
  unfold csB
  rw [decide_eq_true (show i / 2 < sz C by omega), Bool.true_and]
theorem m_inner {q k c e n m : Nat} {s0 : tS} {X : Bf} (hV : VL L) (hC : VC C) (hq : q < sz C) (h : MBs L C s0 s X) (hb : bI (rnd C) X) (hu : bU k c e X) : ∃ s', p12_looksRound_L74 (p12_looksRound_J150 (p12_looksRound_L40 n)) gF (ob g 287) (Int32.ofNat q) (Int32.ofNat m) (Int32.ofNat k) (Int32.ofNat c) 0 (mm g s l r) = p12_looksRound_L40 n (ob g 287) (Int32.ofNat q) (Int32.ofNat m) (Int32.ofNat (k + 1)) (mm g s' l r) ∧ MBs L C s0 s' (itF (inF1 L C q k c) (2 * sz C) 0 X) := by
  have hR := rnd_b hC
  have h8 := hC.1.2
  refine it_sf (L := fun mm' (a : tS) i => p12_looksRound_L74 (p12_looksRound_J150 (p12_looksRound_L40 n)) mm' (ob g 287) (Int32.ofNat q) (Int32.ofNat m) (Int32.ofNat k) (Int32.ofNat c) i (mm g a l r)) (R := fun _ a x => MBs L C s0 a x ∧ bI (rnd C) x ∧ bU k c e x) (f := inF1 L C q k c) (Q := fun B x => ∃ s', B = p12_looksRound_L40 n (ob g 287) (Int32.ofNat q) (Int32.ofNat m) (Int32.ofNat (k + 1)) (mm g s' l r) ∧ MBs L C s0 s' x) (N := 2 * sz C) (fun m' i a x hi hR => ?_) (fun m' a x hR => ?_) (2 * sz C) gF 0 s X (by omega) (gF_gt (by omega)) ⟨h, hb, hu⟩
  · obtain ⟨⟨hM, hL, hmb, hf, hp⟩, hbx, hux⟩ := hR
    have hR1 := rnd_b hC
    have hc := (hbx.2.2.1 c e hux.2.2.1).1
    have hc99 : c < 99 := by omega
    have lt := ltNN (show i < 2147483648 by omega) (show 2 * sz C < 2147483648 by omega)
    have hs : i / 2 < sz C := by omega
    rcases Bool.eq_false_or_eq_true (gv C (i / 2) q) with gg | gg
    · obtain ⟨n1, n2⟩ := abN_ok (sy := i) hV hC hq hc
      have hcb : 0 ≤ (Int32.ofNat c).toInt ∧ (Int32.ofNat c).toInt < (C.1 4).toInt := by
        rw [hR1.2.2, i_toInt (by omega), i_toInt (by omega)]
        omega
      obtain ⟨s1, e1, M1, L1, f1⟩ := m_from (g := g) (l := l) (r := r) (sy := i) hM hL hV hC hq hs (by omega) hcb
      rw [n2] at e1
      have mb1 : mB s1 x := by
        obtain ⟨a1, a2, a3, a4⟩ := hmb
        refine ⟨fun b hb => ?_, fun b hb hn => ?_, fun j hj => ?_, ?_⟩
        · rw [f1.1 296 (by decide) (by decide)]; exact a1 b hb
        · rw [f1.1 297 (by decide) (by decide)]; exact a2 b hb hn
        · rw [f1.1 298 (by decide) (by decide)]; exact a3 j hj
        · rw [f1.1 287 (by decide) (by decide)]; exact a4
      have v0 : s1 296 c = Int32.ofNat e := by rw [mb1.1 c hc99, hux.2.2.1]; rfl
      have v1 : s1 297 c = x.2.1 c := mb1.2.1 c hc99 (by rw [hux.2.2.1]; exact Option.some_ne_none e)
      have he := (hbx.2.2.1 c e hux.2.2.1).2
      obtain ⟨s2, e2, mb2, f2⟩ := m_finds (g := g) (l := l) (r := r) (a := abN L C q c i) (st := e + 1) (le := if k = 0 then Int32.ofNat i else x.2.1 c) mb1 (by omega) (by omega) (fun hn => bI_lt hR1.2.1 hbx n1 hn) (fun d hd => by have := (hbx.2.2.1 _ d hd).2; omega)
      have ein : inF1 L C q k c i x = fdF (abN L C q c i) (e + 1) (if k = 0 then Int32.ofNat i else x.2.1 c) x := by
        unfold inF1
        rw [cs_in hi, if_pos gg, hux.2.2.1]
      have s288 : s2 288 = s1 288 := funext fun j => f2 288 j (by unfold mQ; omega)
      have ke : (e = 0) = (k = 0) := by
        obtain ⟨-, d, d1, d2, d3⟩ := hbx.2.1 k hux.1
        rw [hux.2.1, hux.2.2.1] at d1
        have := Option.some.inj d1
        exact propext ⟨fun h => d3 (by omega), fun h => by omega⟩
      have kk : (Int32.ofNat e = 0) = (k = 0) := by
        rw [← ke]
        exact propext (i_eq (b := 0) (by omega) (by omega))
      refine ⟨s2, ⟨⟨?_, ?_, by rw [ein]; exact mb2, fun o j a b c => ?_, fun j hj => ?_⟩, in_ok hV hC hq hbx hux⟩, ?_⟩
      · show Mw (s2 288) C
        rw [s288]
        exact M1
      · show LMw (s2 288) L
        rw [s288]
        exact L1
      · rw [f2 o j c, f1.1 o a b]
        exact hf o j a b c
      · rw [s288, f1.2 j hj]
        exact hp j hj
      · by_cases k0 : k = 0
        · rw [if_pos k0] at e2
          have kt : (Int32.ofNat e = 0) = True := by rw [kk]; exact eq_true k0
          simp only [p12_looksRound_L74, m_people hM, two_sz hM.1, obs, lt, hi, if_true, (dm2 (show i < 1000 by omega)).1, m_gov hM hq, gg, ib_t, one_z, if_false, e1, w_R18, h0_ld hc99, v0, i_succ, kt, p12_looksRound_J141, e2, p12_looksRound_J144]
        · rw [if_neg k0] at e2
          simp only [p12_looksRound_L74, m_people hM, two_sz hM.1, obs, lt, hi, if_true, (dm2 (show i < 1000 by omega)).1, m_gov hM hq, gg, ib_t, one_z, if_false, e1, w_R18, w_R19, h0_ld hc99, h1_ld hc99, v0, v1, i_succ, kk, k0, p12_looksRound_J141, e2, p12_looksRound_J144]
    · have ein : inF1 L C q k c i x = x := by
        unfold inF1
        rw [cs_in hi, gg]
        rfl
      refine ⟨a, ⟨⟨hM, hL, by rw [ein]; exact hmb, hf, hp⟩, by rw [ein]; exact hbx, by rw [ein]; exact hux⟩, ?_⟩
      simp only [p12_looksRound_L74, m_people hM, two_sz hM.1, obs, lt, hi, if_true, (dm2 (show i < 1000 by omega)).1, m_gov hM hq, gg, ib_f, p12_looksRound_J144, i_succ]
  · obtain ⟨hx, -⟩ := hR
    refine ⟨a, ?_, hx⟩
    have lt : (Int32.ofNat (2 * sz C) < Int32.ofNat (2 * sz C)) = False := ltk_n
    simp only [p12_looksRound_L74, m_people hx.1, two_sz hx.1.1, obs, lt, if_false, p12_looksRound_J150, i_succ]
theorem m_outer {q m : Nat} {s0 : tS} {X : Bf} (hm : m ≤ 1000000) (hV : VL L) (hC : VC C) (hq : q < sz C) (h : MBs L C s0 s X) (hb : bK (rnd C) 0 X) : ∃ s', p12_looksRound_L40 gF (ob g 287) (Int32.ofNat q) (Int32.ofNat m) 0 (mm g s l r) = some (mm g s' l r) ∧ MBs L C s0 s' (lpx (lpM L C q m) id 100 0 X) := by
  refine it_sx (L := fun n (a : tS) i => p12_looksRound_L40 n (ob g 287) (Int32.ofNat q) (Int32.ofNat m) i (mm g a l r)) (R := fun k a X => MBs L C s0 a X ∧ bK (rnd C) k X) (Q := fun B Y => ∃ s', B = some (mm g s' l r) ∧ MBs L C s0 s' Y) (f := lpM L C q m) (K := id) (N := 100) (fun n k a x hk hR => ?_) (fun n a x hR => ?_) 100 gF 0 s X (by omega) (gF_gt (by omega)) ⟨h, hb⟩
  · obtain ⟨hc, hx⟩ := hR
    have hn := bI_le hx.1
    have e7 : a 287 21 = Int32.ofNat x.2.2.2 := hc.2.2.1.2.2.2
    have lt := ltNN (show k < 2147483648 by omega) (show x.2.2.2 < 2147483648 by omega)
    by_cases c : k < x.2.2.2
    · obtain ⟨e, u⟩ := hx.2 c
      have hcb := hx.1.2.2.1 _ e u.2.2.1
      have hR1 := rnd_b hC
      have e2 : a 298 k = Int32.ofNat (x.2.2.1 k) := hc.2.2.1.2.2.1 k c
      have e3 : a 296 (x.2.2.1 k) = Int32.ofNat e := by rw [hc.2.2.1.1 _ (by omega), u.2.2.1]; rfl
      have eg : (x.1 (x.2.2.1 k)).getD 0 = e := by rw [u.2.2.1]; rfl
      have lm := ltNN (show e < 2147483648 by omega) (show m < 2147483648 by omega)
      by_cases hm' : e < m
      · obtain ⟨s', e1, c1⟩ := m_inner (g := g) (l := l) (r := r) (n := n) (m := m) hV hC hq hc hx.1 u
        left
        refine ⟨ouF L C q k x, s', if_pos ⟨c, by rw [eg]; exact hm'⟩, ⟨c1, (bK_next hV hC hq hx.1 u).1⟩, ?_⟩
        simp only [p12_looksRound_L40, w_getI, e7, obs, lt, c, if_true, w_R18, w_R20, h2_ld (show k < 99 by omega), e2, h0_ld (show x.2.2.1 k < 99 by omega), e3, lm, hm']
        exact e1
      · right
        refine ⟨x, if_neg (fun h => hm' (by rw [← eg]; exact h.2)), a, ?_, hc⟩
        simp only [p12_looksRound_L40, w_getI, e7, obs, lt, c, if_true, w_R18, w_R20, h2_ld (show k < 99 by omega), e2, h0_ld (show x.2.2.1 k < 99 by omega), e3, lm, hm', if_false, p12_looksRound_J156]
    · right
      refine ⟨x, if_neg (fun h => c h.1), a, ?_, hc⟩
      simp only [p12_looksRound_L40, w_getI, e7, obs, lt, c, if_false, p12_looksRound_J156]
  · obtain ⟨hc, hx⟩ := hR
    have hn := bI_le hx.1
    have e7 : a 287 21 = Int32.ofNat x.2.2.2 := hc.2.2.1.2.2.2
    have lt := ltNN (show 100 < 2147483648 by omega) (show x.2.2.2 < 2147483648 by omega)
    have c : ¬ 100 < x.2.2.2 := by omega
    refine ⟨a, ?_, hc⟩
    simp only [p12_looksRound_L40, w_getI, e7, obs, lt, c, if_false, p12_looksRound_J156]
theorem m_looks {q a m : Nat} (hm : m ≤ 1000000) (hM : Ms s C) (hL : LMs s L) (hV : VL L) (hC : VC C) (hq : q < sz C) (ha : C.2 q 0 = Int32.ofNat a) (haR : a < rnd C) : ∃ s', p12_looksRound (ob g 287) (Int32.ofNat q) (Int32.ofNat m) (mm g s l r) = some (mm g s' l r) ∧ MBs L C s s' (lpx (lpM L C q m) id 100 0 (fdF a 0 (-1) e0X)) := by
  have hR := rnd_b hC
  rw [p12_looksRound, w_gd]
  refine Eq.mp ?_ (?_ : ∃ s', p12_looksRound_J21 (ob g 287) (Int32.ofNat q) (Int32.ofNat m) (mm g (flS s 296 99 (-1)) l r) = some (mm g s' l r) ∧ MBs L C s s' (lpx (lpM L C q m) id 100 0 (fdF a 0 (-1) e0X)))
  · have : p12_looksRound_L2 p12_looksRound_J21 gF (ob g 287) (Int32.ofNat q) (Int32.ofNat m) 0 (mm g s l r) = p12_looksRound_J21 (ob g 287) (Int32.ofNat q) (Int32.ofNat m) (mm g (flS s 296 99 (-1)) l r) := by
      refine it_up (fun n (b : tS) i => p12_looksRound_L2 p12_looksRound_J21 n (ob g 287) (Int32.ofNat q) (Int32.ofNat m) i (mm g b l r)) 99 (fun i b => up2 b 296 i (-1)) (fun b => p12_looksRound_J21 (ob g 287) (Int32.ofNat q) (Int32.ofNat m) (mm g b l r)) (fun n i b hi => ?_) (fun n b => ?_) gF s (gF_gt (by omega))
      · simp only [p12_looksRound_L2, lt99 hi, if_true, w_R18, obs, h0_st hi, i_succ]
      · simp only [p12_looksRound_L2, lt99n, if_false]
    rw [this]
  · have M1 : Ms (up2 (flS s 296 99 (-1)) 287 21 0) C := m_up287 (by
      show Mw (flS s 296 99 (-1) 288) C
      rw [flS_o (by decide)]
      exact hM)
    have L1 : LMs (up2 (flS s 296 99 (-1)) 287 21 0) L := by
      show LMw (up2 (flS s 296 99 (-1)) 287 21 0 288) L
      rw [show up2 (flS s 296 99 (-1)) 287 21 0 288 = s 288 from funext fun j => by rw [up2_ne (by omega), flS_o (by decide)]]
      exact hL
    have mb0 : mB (up2 (flS s 296 99 (-1)) 287 21 0) e0X := ⟨fun b hb => by rw [up2_ne (by omega), flS_v, if_pos hb]; rfl, fun b _ h => absurd rfl h, fun i hi => absurd hi (Nat.not_lt_zero i), up2_eq⟩
    obtain ⟨s3, e3, mb3, f3⟩ := m_finds (g := g) (l := l) (r := r) (a := a) (st := 0) (le := -1) mb0 (by omega) (by omega) (fun _ => by decide) (fun d hd => by cases hd)
    have e3 : p12_finds (ob g 287) (Int32.ofNat a) 0 (-1) (mm g (up2 (flS s 296 99 (-1)) 287 21 0) l r) = some (mm g s3 l r) := e3
    have s288 : s3 288 = s 288 := funext fun j => by rw [f3 288 j (by unfold mQ; omega), up2_ne (by omega), flS_o (by decide)]
    have h3 : MBs L C s s3 (fdF a 0 (-1) e0X) := by
      refine ⟨?_, ?_, mb3, fun o k h1 h2 h3 => ?_, fun k _ => by rw [s288]⟩
      · show Mw (s3 288) C
        rw [s288]
        exact hM
      · show LMw (s3 288) L
        rw [s288]
        exact hL
      · have h3' := h3
        unfold mQ at h3'
        rw [f3 o k h3, up2_ne (by omega), flS_o (by omega)]
    obtain ⟨s4, e4, h4⟩ := m_outer (g := g) (l := l) (r := r) hm hV hC hq h3 (bK_0 haR hR.2.1)
    refine ⟨s4, ?_, h4⟩
    simp only [p12_looksRound_J21, w_putI, obs, m_of0 M1 hq, ha, e3]
    exact e4
end
