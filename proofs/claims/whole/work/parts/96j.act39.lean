section
variable {g : Nat} {s : tS} {l : tL} {r : Nat → Nat} {C : Co} {G : Lg} {L : Lw}
/-! MATCH in the reference: the first way -/
def mtZ (C : Co) (m : Mt) : Prop := ∀ x y, m x = some y → y < sz C
theorem prM_z {m : Mt} {b q : Nat} (h : mtZ C m) (hb : b < sz C) (hq : q < sz C) : mtZ C (prM m b q) := by
  intro x y hy
  unfold prM at hy
  by_cases e : x = q
  · subst e
    rw [up1_eq] at hy
    have := Option.some.inj hy
    omega
  · rw [up1_ne e] at hy
    by_cases e2 : x = b
    · subst e2
      rw [up1_eq] at hy
      have := Option.some.inj hy
      omega
    · rw [up1_ne e2] at hy
      exact h x y hy
theorem rM_z (hC : VC C) : ∀ k b T m, b + k = sz C → mtZ C m → mtZ C (rM C k b T m) := by
  intro k
  induction k with
  | zero => intro b T m _ h; exact h
  | succ k ih =>
    intro b T m h hm
    obtain ⟨f1, f2, f3, f4⟩ := fsM_ok (k := k) (T := T) hC (show b < sz C by omega)
    simp only [rM]
    by_cases e : fsM C k b T = sz C
    · rw [if_pos e]
      exact ih (b + 1) T m (by omega) hm
    · rw [if_neg e]
      exact ih (b + 1) _ _ (by omega) (prM_z hm (by omega) (by omega))
theorem rM_keep (hC : VC C) : ∀ k b T m, b + k = sz C → ∀ p, p < b → C.2 p 2 = 0 → rM C k b T m p = m p := by
  intro k
  induction k with
  | zero => intro b T m _ p _ _; rfl
  | succ k ih =>
    intro b T m h p hp hs
    obtain ⟨f1, f2, f3, f4⟩ := fsM_ok (k := k) (T := T) hC (show b < sz C by omega)
    simp only [rM]
    by_cases e : fsM C k b T = sz C
    · rw [if_pos e]
      exact ih (b + 1) T m (by omega) p (by omega) hs
    · rw [if_neg e, ih (b + 1) _ _ (by omega) p (by omega) hs]
      have hc := cp_of (f4 e).1
      unfold prM
      have e1 : p ≠ fsM C k b T := fun e => by
        rw [← e] at hc
        rw [hc.2.1] at hs
        exact absurd hs (by decide)
      rw [up1_ne e1, up1_ne (by omega)]
def tsum (f : Nat → Int) : Nat → Nat → Int
  | 0, _ => 0
  | n + 1, i => f i + tsum f n (i + 1)
def trmM (C : Co) (m : Mt) (y : Bool) (p : Nat) : Int := if C.2 p 2 = 0 then (match m p with | none => 0 | some q => if y = true then gI C p q else 1) else 0
theorem sum_cM (hC : VC C) {y : Bool} : ∀ k b T m, b + k = sz C → (∀ x, b ≤ x → C.2 x 2 = 0 → m x = none) → tsum (trmM C (rM C k b T m) y) k b = if y = true then (cM C k b T).2 else (cM C k b T).1 := by
  intro k
  induction k with
  | zero =>
    intro b T m _ _
    cases y <;> rfl
  | succ k ih =>
    intro b T m h hm
    obtain ⟨f1, f2, f3, f4⟩ := fsM_ok (k := k) (T := T) hC (show b < sz C by omega)
    by_cases e : fsM C k b T = sz C
    · have er : rM C (k + 1) b T m = rM C k (b + 1) T m := by
        simp only [rM]
        rw [if_pos e]
      have ec : cM C (k + 1) b T = cM C k (b + 1) T := by
        simp only [cM]
        rw [if_pos e]
      rw [er, ec]
      show trmM C (rM C k (b + 1) T m) y b + tsum (trmM C (rM C k (b + 1) T m) y) k (b + 1) = _
      rw [ih (b + 1) T m (by omega) (fun x hx hs => hm x (by omega) hs)]
      have e0 : trmM C (rM C k (b + 1) T m) y b = 0 := by
        unfold trmM
        by_cases hs : C.2 b 2 = 0
        · rw [if_pos hs, rM_keep hC k (b + 1) T m (by omega) b (by omega) hs, hm b (Nat.le_refl _) hs]
        · rw [if_neg hs]
      rw [e0, Int.zero_add]
    · obtain ⟨c1, c2⟩ := f4 e
      have hc := cp_of c1
      have er : rM C (k + 1) b T m = rM C k (b + 1) (stB T (fsM C k b T)) (prM m b (fsM C k b T)) := by
        simp only [rM]
        rw [if_neg e]
      have ec : cM C (k + 1) b T = ((cM C k (b + 1) (stB T (fsM C k b T))).1 + 1, (cM C k (b + 1) (stB T (fsM C k b T))).2 + gI C b (fsM C k b T)) := by
        simp only [cM]
        rw [if_neg e]
      rw [er, ec]
      show trmM C (rM C k (b + 1) (stB T (fsM C k b T)) (prM m b (fsM C k b T))) y b + tsum _ k (b + 1) = _
      rw [ih (b + 1) (stB T (fsM C k b T)) (prM m b (fsM C k b T)) (by omega) (fun x hx hs => by
        unfold prM
        have e1 : x ≠ fsM C k b T := fun e => by
          rw [← e] at hc
          rw [hc.2.1] at hs
          exact absurd hs (by decide)
        rw [up1_ne e1, up1_ne (by omega)]
        exact hm x (by omega) hs)]
      have e0 : trmM C (rM C k (b + 1) (stB T (fsM C k b T)) (prM m b (fsM C k b T))) y b = if y = true then gI C b (fsM C k b T) else 1 := by
        unfold trmM
        rw [if_pos hc.1, rM_keep hC k (b + 1) _ _ (by omega) b (by omega) hc.1]
        have : prM m b (fsM C k b T) b = some (fsM C k b T) := by
          unfold prM
          rw [up1_ne (cp_ne c1), up1_eq]
        rw [this]
      rw [e0]
      cases y with
      | false =>
        rw [if_neg (by decide), if_neg (by decide), if_neg (by decide)]
        exact Int.add_comm _ _
      | true =>
        rw [if_pos rfl, if_pos rfl, if_pos rfl]
        exact Int.add_comm _ _
theorem m_noM : p12_noMates (ob g 287) (mm g s l r) = some (mm g (flS s 301 8 (-1)) l r) := by
  rw [p12_noMates, w_gd]
  refine it_up (fun n (b : tS) i => p12_noMates_L2 n (ob g 287) i (mm g b l r)) 8 (fun i b => up2 b 301 i (-1)) (fun b => some (mm g b l r)) (fun n i b hi => ?_) (fun n b => ?_) gF s (gF_gt (by omega))
  · simp only [p12_noMates_L2, lt8_y hi, if_true, w_R24, obs, u1_st hi, i_succ]
  · simp only [p12_noMates_L2, lt8_n, if_false]
def f31 (o : Nat) : Prop := o = 300 ∨ o = 301
theorem m_matches (h : Ms s C) (hC : VC C) : ∃ s', p12_matches (ob g 287) (mm g s l r) = some (mm g s' l r) ∧ mtS 301 s' (bestM C) ∧ Fr f31 s s' := by
  have h8 := hC.1.2
  have ez : C.1 0 = Int32.ofNat (sz C) := hC.1.1
  obtain ⟨s1, e1, T1, f1⟩ := m_lays (g := g) (l := l) (r := r) h hC
  have e2 := m_noM (g := g) (s := s1) (l := l) (r := r)
  have f1' : Fr f31 s (flS s1 301 8 (-1)) := (f1.mono (fun o ho => Or.inl ho)).trans (flS_fr.mono (fun o ho => Or.inr ho))
  have T2 : TbS C 0 (flS s1 301 8 (-1)) := fun b hb hb2 t ht => by rw [flS_o (by decide)]; exact T1 b hb hb2 t ht
  have key : ∃ s', p12_matches_L12 gF (ob g 287) 0 0 (mm g (flS s1 301 8 (-1)) l r) = some (mm g s' l r) ∧ mtS 301 s' (bestM C) ∧ Fr f31 s s' := by
    refine it_inv (L := fun n (a : Int32 × tS) i => p12_matches_L12 n (ob g 287) a.1 i (mm g a.2 l r)) (P := fun b a => ∃ t m, t < 256 ∧ a.1 = Int32.ofNat t ∧ mtS 301 a.2 m ∧ TbS C 0 a.2 ∧ rM C (sz C - b) b (bitsN t) m = bestM C ∧ Fr f31 s a.2) (Q := fun B => ∃ s', B = some (mm g s' l r) ∧ mtS 301 s' (bestM C) ∧ Fr f31 s s') (N := sz C) (fun n b a hb hP => ?_) (fun n a hP => ?_) (sz C) gF 0 (0, flS s1 301 8 (-1)) (by omega) (gF_gt (by omega)) ⟨0, noM, by decide, rfl, fun x hx => by show flS s1 301 8 (-1) 301 x = _; rw [flS_v, if_pos hx]; rfl, T2, by
      have : bitsN 0 = fun _ => false := funext fun j => by unfold bitsN; simp
      rw [this]
      rfl, f1'⟩
    · obtain ⟨a1, sa⟩ := a
      obtain ⟨t, m, ht, hx, hm, hT, hr, hf⟩ := hP
      have hx : a1 = Int32.ofNat t := hx
      have hm : mtS 301 sa m := hm
      have hT : TbS C 0 sa := hT
      have hf : Fr f31 s sa := hf
      subst hx
      have Ma : Ms sa C := h.fr hf (fun o ho => by unfold f31 at ho; omega)
      have hk : sz C - b = (sz C - (b + 1)) + 1 := by omega
      obtain ⟨q1, q2, q3, q4⟩ := fsM_ok (k := sz C - (b + 1)) (T := bitsN t) hC hb
      rw [← hk] at q1 q3
      have hw := hT b (Nat.zero_le _) (by omega) t ht
      have hTb : TbS C (b + 1) sa := fun b' h1 h2 t' h3 => hT b' (Nat.zero_le _) h2 t' h3
      have lt := ltNN (show b < 2147483648 by omega) (show sz C < 2147483648 by omega)
      have find : ∀ K, p12_matches_L22 K gF (ob g 287) (Int32.ofNat t) (Int32.ofNat b) 0 (mm g sa l r) = K (ob g 287) (Int32.ofNat t) (Int32.ofNat b) (Int32.ofNat (fsM C (sz C - (b + 1)) b (bitsN t))) (mm g sa l r) := by
        intro K
        refine it_inv (L := fun n' (_ : Unit) i => p12_matches_L22 K n' (ob g 287) (Int32.ofNat t) (Int32.ofNat b) i (mm g sa l r)) (P := fun _ _ => True) (Q := fun B => B = K (ob g 287) (Int32.ofNat t) (Int32.ofNat b) (Int32.ofNat (fsM C (sz C - (b + 1)) b (bitsN t))) (mm g sa l r)) (N := fsM C (sz C - (b + 1)) b (bitsN t)) (fun n' i _ hi _ => ?_) (fun n' _ _ => ?_) (fsM C (sz C - (b + 1)) b (bitsN t)) gF 0 () (by omega) (gF_gt (by omega)) trivial
        · left
          obtain ⟨v, e1, e2⟩ := m_by (g := g) (l := l) (r := r) Ma hC hTb hb ht (show i ≤ sz C by omega)
          have hlt := q3 i hi
          have ne : (v = sa 300 (256 * b + t)) = False := eq_false (fun e => by
            rw [e, hw] at e2
            omega)
          refine ⟨(), trivial, ?_⟩
          simp only [p12_matches_L22, e1, obs, w_R23, m_wAt (show b < 9 by omega), u0_ld (show 256 * b + t < 2304 by omega), ne, if_false, i_succ]
        · obtain ⟨v, e1, e2⟩ := m_by (g := g) (l := l) (r := r) Ma hC hTb hb ht q2
          have eq : (v = sa 300 (256 * b + t)) = True := eq_true (i_ext (by rw [e2, hw, q1]))
          simp only [p12_matches_L22, e1, obs, w_R23, m_wAt (show b < 9 by omega), u0_ld (show 256 * b + t < 2304 by omega), eq, if_true]
      have pe : p12_people (ob g 287) (mm g sa l r) = some (Int32.ofNat (sz C)) := by rw [m_people Ma, ← ez]
      left
      by_cases e : fsM C (sz C - (b + 1)) b (bitsN t) = sz C
      · refine ⟨(Int32.ofNat t, sa), ⟨t, m, ht, rfl, hm, hT, ?_, hf⟩, ?_⟩
        · rw [← hr, hk]
          simp only [rM]
          rw [if_pos e]
        · simp only [p12_matches_L12, pe, obs, lt, hb, if_true]
          rw [find, e]
          simp only [p12_matches_J48, pe, obs, if_true, p12_matches_J79, i_succ]
      · obtain ⟨c1, c2⟩ := q4 e
        have hq : fsM C (sz C - (b + 1)) b (bitsN t) < sz C := by omega
        have ne : (Int32.ofNat (fsM C (sz C - (b + 1)) b (bitsN t)) = Int32.ofNat (sz C)) = False := eq_false (fun hh => e ((i_eq (by omega) (by omega)).mp hh))
        have eb : Int32.ofNat t ||| ((1 : Int32) <<< (Int32.ofNat (fsM C (sz C - (b + 1)) b (bitsN t)) &&& 31)) = Int32.ofNat (t ||| 2 ^ fsM C (sz C - (b + 1)) b (bitsN t)) := bt_tab t ht _ (by omega)
        refine ⟨(Int32.ofNat (t ||| 2 ^ fsM C (sz C - (b + 1)) b (bitsN t)), up2 (up2 sa 301 b (Int32.ofNat (fsM C (sz C - (b + 1)) b (bitsN t)))) 301 (fsM C (sz C - (b + 1)) b (bitsN t)) (Int32.ofNat b)), ⟨t ||| 2 ^ fsM C (sz C - (b + 1)) b (bitsN t), prM m b (fsM C (sz C - (b + 1)) b (bitsN t)), Nat.or_lt_two_pow (n := 8) ht (Nat.pow_lt_pow_right (by decide) (by omega)), rfl, fun y hy => ?_, fun b' h1 h2 t' h3 => ?_, ?_, hf.trans ((Fr.up (Or.inr rfl)).trans (Fr.up (Or.inr rfl)))⟩, ?_⟩
        · show up2 (up2 sa 301 b _) 301 _ _ 301 y = encB (prM m b _ y)
          unfold prM
          by_cases e1 : y = fsM C (sz C - (b + 1)) b (bitsN t)
          · rw [e1, up2_eq, up1_eq]
            rfl
          · rw [up2_ne (by omega), up1_ne e1]
            by_cases e2 : y = b
            · rw [e2, up2_eq, up1_eq]
              rfl
            · rw [up2_ne (by omega), up1_ne e2]
              exact hm y hy
        · refine Eq.trans (congrArg Int32.toInt ?_) (hT b' h1 h2 t' h3)
          show up2 (up2 sa 301 b (Int32.ofNat (fsM C (sz C - (b + 1)) b (bitsN t)))) 301 (fsM C (sz C - (b + 1)) b (bitsN t)) (Int32.ofNat b) 300 (256 * b' + t') = sa 300 (256 * b' + t')
          rw [up2_ne (by omega), up2_ne (by omega)]
        · rw [← hr, hk]
          simp only [rM]
          rw [if_neg e, bits_or]
        · simp only [p12_matches_L12, pe, obs, lt, hb, if_true]
          rw [find]
          simp only [p12_matches_J48, pe, obs, ne, if_false, w_R24, u1_st (show b < 8 by omega), u1_st (show fsM C (sz C - (b + 1)) b (bitsN t) < 8 by omega), eb, p12_matches_J79, i_succ]
    · obtain ⟨t, m, ht, hx, hm, hT, hr, hf⟩ := hP
      have Ma : Ms a.2 C := h.fr hf (fun o ho => by unfold f31 at ho; omega)
      have pe : p12_people (ob g 287) (mm g a.2 l r) = some (Int32.ofNat (sz C)) := by rw [m_people Ma, ← ez]
      rw [Nat.sub_self] at hr
      have hr : m = bestM C := hr
      refine ⟨a.2, ?_, by rw [← hr]; exact hm, hf⟩
      simp only [p12_matches_L12, pe, obs, ltk_n, if_false]
  obtain ⟨s', e3, m3, f3⟩ := key
  refine ⟨s', ?_, m3, f3⟩
  simp only [p12_matches, w_gd, e1, obs, e2]
  exact e3
theorem best_z (hC : VC C) : mtZ C (bestM C) := rM_z hC (sz C) 0 _ noM (by omega) (fun x y h => by cases h)
theorem itF_sum {f : Nat → Int} : ∀ k i x, itF (fun i x => x + f i) k i x = x + tsum f k i := by
  intro k
  induction k with
  | zero => intro i x; show x = x + 0; omega
  | succ k ih =>
    intro i x
    show itF _ k (i + 1) (x + f i) = x + (f i + tsum f k (i + 1))
    rw [ih]
    omega
theorem m_msum {y : Bool} (h : Ms s C) (hC : VC C) (hm : mtS 301 s (bestM C)) : ∃ v, p12_match_L13 gF (ob g 287) (ib y) 0 0 (mm g s l r) = some (v, mm g s l r) ∧ v.toInt = if y = true then (cM C (sz C) 0 (fun _ => false)).2 else (cM C (sz C) 0 (fun _ => false)).1 := by
  have h8 := hC.1.2
  have hz := best_z hC
  have trm_b : ∀ i, i < sz C → 0 ≤ trmM C (bestM C) y i ∧ trmM C (bestM C) y i ≤ 98 := fun i hi => by
    unfold trmM
    by_cases c : C.2 i 2 = 0
    · rw [if_pos c]
      cases hb : bestM C i with
      | none => exact ⟨Int.le_refl _, show (0 : Int) ≤ 98 by decide⟩
      | some q =>
        have := gap_b hC hi (hz i q hb)
        cases y
        · exact ⟨show (0 : Int) ≤ 1 by decide, show (1 : Int) ≤ 98 by decide⟩
        · exact this
    · rw [if_neg c]
      exact ⟨Int.le_refl _, by decide⟩
  have key : ∃ v, p12_match_L13 gF (ob g 287) (ib y) 0 0 (mm g s l r) = some (v, mm g s l r) ∧ v.toInt = itF (fun i x => x + trmM C (bestM C) y i) (sz C) 0 0 := by
    refine it_sf (L := fun n (a : Int32) i => p12_match_L13 n (ob g 287) (ib y) a i (mm g s l r)) (R := fun i a x => a.toInt = x ∧ 0 ≤ x ∧ x ≤ 98 * (i : Int)) (f := fun i x => x + trmM C (bestM C) y i) (Q := fun B x => ∃ v, B = some (v, mm g s l r) ∧ v.toInt = x) (N := sz C) (fun n i a x hi hR => ?_) (fun n a x hR => ?_) (sz C) gF 0 0 0 (by omega) (gF_gt (by omega)) ⟨rfl, by omega, by omega⟩
    · obtain ⟨h1, h2, h3⟩ := hR
      have tb := trm_b i hi
      by_cases c : C.2 i 2 = 0
      · cases hb : bestM C i with
        | none =>
          have et : trmM C (bestM C) y i = 0 := by
            unfold trmM
            rw [if_pos c, hb]
          have em : s 301 i = -1 := by rw [hm i (by omega), hb]; rfl
          refine ⟨a, ⟨by rw [et]; omega, by omega, by omega⟩, ?_⟩
          simp only [p12_match_L13, m_people h, obs, zc_yes hC.1 hi, if_true, m_boy h hi, decide_eq_true c, ib_t, one_z, if_false, w_R24, u1_ld (show i < 8 by omega), em, p12_match_J61, i_succ]
        | some q =>
          have hq := hz i q hb
          have em : s 301 i = Int32.ofNat q := by rw [hm i (by omega), hb]; rfl
          cases y with
          | false =>
            have et : trmM C (bestM C) false i = 1 := by
              unfold trmM
              rw [if_pos c, hb]
              rfl
            refine ⟨a + 1, ⟨?_, by omega, by omega⟩, ?_⟩
            · have o1 : (1 : Int32).toInt = 1 := rfl
              rw [i_tadd] <;> omega
            · simp only [p12_match_L13, m_people h, obs, zc_yes hC.1 hi, if_true, m_boy h hi, decide_eq_true c, ib_t, ib_f, one_z, if_false, w_R24, u1_ld (show i < 8 by omega), em, nm1 (show q < 8 by omega), p12_match_J59, p12_match_J61, i_succ]
          | true =>
            have et : trmM C (bestM C) true i = gI C i q := by
              unfold trmM
              rw [if_pos c, hb]
              rfl
            have hg := gap_b hC hi hq
            refine ⟨a + gapF C i q, ⟨?_, by omega, by omega⟩, ?_⟩
            · unfold gI at et hg
              rw [i_tadd] <;> omega
            · simp only [p12_match_L13, m_people h, obs, zc_yes hC.1 hi, if_true, m_boy h hi, decide_eq_true c, ib_t, one_z, if_false, w_R24, u1_ld (show i < 8 by omega), em, nm1 (show q < 8 by omega), m_gap h hi hq, p12_match_J59, p12_match_J61, i_succ]
      · have et : trmM C (bestM C) y i = 0 := by
          unfold trmM
          rw [if_neg c]
        refine ⟨a, ⟨by rw [et]; omega, by omega, by omega⟩, ?_⟩
        simp only [p12_match_L13, m_people h, obs, zc_yes hC.1 hi, if_true, m_boy h hi, decide_eq_false c, ib_f, p12_match_J61, i_succ]
    · refine ⟨a, ?_, hR.1⟩
      simp only [p12_match_L13, m_people h, obs, zc_no hC.1, if_false]
  obtain ⟨v, e1, e2⟩ := key
  refine ⟨v, e1, ?_⟩
  rw [e2, itF_sum, Int.zero_add]
  exact sum_cM hC (sz C) 0 (fun _ => false) noM (by omega) (fun _ _ _ => rfl)
theorem rs_pQ {s' : tS} (f : Fr pQ s s') : RS s s' := RS.of f (fun o ho j => by unfold pQ at ho; unfold scr; omega) (by unfold pQ; omega) (by unfold pQ; omega) (by unfold pQ; omega)
theorem rs_f31 {s' : tS} (f : Fr f31 s s') : RS s s' := RS.of f (fun o ho j => by unfold f31 at ho; unfold scr; omega) (by unfold f31; omega) (by unfold f31; omega) (by unfold f31; omega)
theorem op_match {x1 : Bool} : Dir g (fun M => p11_match (ob g 0) (ib x1) M) (fun M => p12_match (ob g 287) (ib x1) M) := by
  intro s l r hI
  obtain ⟨C, G, L, n, p, hc, ht, hp, hk, hr⟩ := id hI
  have hC := hc.1.2.2.2.2.1
  obtain ⟨s1, e1, m1, v1, v2, f1⟩ := c_best (g := g) (l := l) (r := r) hC hc.1.1
  have r1 := rs_pQ f1
  have hc1 := hc.rs r1
  have M1 := m287 hc1.1.2.2.1 (v := 0)
  obtain ⟨s2, e2, m2, f2⟩ := m_matches (g := g) (l := l) (r := r) M1 hC
  have M2 : Ms s2 C := M1.fr f2 (fun o ho => by unfold f31 at ho; omega)
  obtain ⟨v, e3, e4⟩ := m_msum (g := g) (l := l) (r := r) (y := x1) M2 hC m2
  refine ⟨v, s1, r, s2, ?_, ?_, (hI.rs r1).rs (rs_thr.trans (rs_f31 f2))⟩
  · have ev : v = if x1 = true then s1 114 5 else s1 114 4 := by
      apply i_ext
      rw [e4]
      cases x1
      · exact v1.symm
      · exact v2.symm
    rw [ev]
    cases x1
    · simp only [p11_match, a_gd, a_R16, obs, e1, ib_f, if_true, z_I, p11_match_J28, Bool.false_eq_true, if_false]
    · simp only [p11_match, a_gd, a_R16, obs, e1, ib_t, one_z, if_false, z_I, p11_match_J28, if_true]
  · simp only [p12_match, w_gd, w_putI, obs, e2]
    exact e3
theorem op_mate {x1 : Int32} : Op g H_mate (fun M => p11_mate (ob g 0) x1 M) (fun M => p12_mate (ob g 287) x1 M) := by
  refine opP1 (x := x1) (by decide) (fun s l r h => ?_) (fun s l r h => ⟨0, ?_⟩) (fun s l r C G L i hc hr hi ex h => Or.inr ?_)
  · simp only [p11_mate, a_gd, h, xb]
  · simp only [p12_mate, w_gd, w_putI, obs, h, m_th1, one_z, if_false]
  · subst ex
    have hC := hc.1.2.2.2.2.1
    have i8 := zc_8 hC.1 hi
    obtain ⟨s1, e1, m1, v1, v2, f1⟩ := c_best (g := g) (l := l) (r := r) hC hc.1.1
    have b1 : s1 116 i = encB (bestM C i) := m1 i i8
    refine ⟨encB (bestM C i), s1, ?_, rs_pQ f1, fun l1 hc1 hn => ?_⟩
    · simp only [p11_mate, a_gd, h, xb, a_R16, obs, e1, p7_bestOf, z_gd, ge0 (show i < 2147483648 by omega), if_false, z_R2, d2_len, lt8_y i8, if_true, d2_ld i8, b1, p7_bestOf_J23, xr, Option.map_some]
    · obtain ⟨s2, e2, m2, f2⟩ := m_matches (g := g) (l := l1) (r := r) (m287 hc1.1.2.2.1 (v := 0)) hC
      have b2 : s2 301 i = encB (bestM C i) := m2 i i8
      refine ⟨s2, ?_, rs_thr.trans (rs_f31 f2), by rw [f2 287 (by unfold f31; omega), up2_eq]⟩
      simp only [p12_mate, w_gd, w_putI, obs, hn, m_th0, if_true, e2, w_R24, u1_ld i8, b2]
end
