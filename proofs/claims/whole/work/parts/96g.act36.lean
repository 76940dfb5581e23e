section
variable {g : Nat} {s : tS} {l : tL} {r : Nat → Nat} {C : Co} {G : Lg} {L : Lw}
/-! MATCH in the class: all ways -/
theorem ofI_add {x : Int32} {c : Int} (hx : 0 ≤ x.toInt ∧ x.toInt ≤ 100000) (hc : 0 ≤ c ∧ c ≤ 100000) : (x + Int32.ofInt c).toInt = x.toInt + c := by
  have e : (Int32.ofInt c).toInt = c := ofI_toInt (by omega) (by omega)
  rw [i_tadd, e] <;> omega
theorem done_ok (hC : VC C) {k b : Nat} {m : Mt} {many gaps : Int32} (hk : b + k = sz C) (h1 : 0 ≤ many.toInt ∧ many.toInt ≤ b) (h2 : 0 ≤ gaps.toInt ∧ gaps.toInt ≤ 98 * b) : okX (doneX C k b m many gaps) ∧ valB (doneX C k b m many gaps) = 1000 * many.toInt - gaps.toInt + wM C k b (tgM C m) ∧ (doneX C k b m many gaps).1.toInt = many.toInt + (cM C k b (tgM C m)).1 ∧ (doneX C k b m many gaps).2.1.toInt = gaps.toInt + (cM C k b (tgM C m)).2 := by
  obtain ⟨c1, c2, c3, c4, c5⟩ := cM_ok hC k b (tgM C m) hk
  have h8 := hC.1.2
  have e1 : (many + Int32.ofInt (cM C k b (tgM C m)).1).toInt = many.toInt + (cM C k b (tgM C m)).1 := by
    rw [i_tadd] <;> rw [ofI_toInt (by omega) (by omega)] <;> omega
  have e2 : (gaps + Int32.ofInt (cM C k b (tgM C m)).2).toInt = gaps.toInt + (cM C k b (tgM C m)).2 := by
    rw [i_tadd] <;> rw [ofI_toInt (by omega) (by omega)] <;> omega
  refine ⟨⟨?_, ?_, ?_, ?_⟩, ?_, e1, e2⟩
  · show 0 ≤ (many + Int32.ofInt (cM C k b (tgM C m)).1).toInt
    omega
  · show (many + Int32.ofInt (cM C k b (tgM C m)).1).toInt ≤ 8
    omega
  · show 0 ≤ (gaps + Int32.ofInt (cM C k b (tgM C m)).2).toInt
    omega
  · show (gaps + Int32.ofInt (cM C k b (tgM C m)).2).toInt ≤ 784
    omega
  · show 1000 * (many + Int32.ofInt (cM C k b (tgM C m)).1).toInt - (gaps + Int32.ofInt (cM C k b (tgM C m)).2).toInt = _
    omega
theorem dfs_ok (hC : VC C) {k b : Nat} {m : Mt} {many gaps : Int32} {x : Bx} (hk : b + k = sz C) (h1 : 0 ≤ many.toInt ∧ many.toInt ≤ b) (h2 : 0 ≤ gaps.toInt ∧ gaps.toInt ≤ 98 * b) (hx : okX x) : okX (dfsX C k b m many gaps x) := by
  unfold dfsX
  split
  · exact (done_ok hC hk h1 h2).1
  · exact hx
def cmX (C : Co) (k b : Nat) (m : Mt) (many gaps : Int32) (j : Nat) : Bx := if j = sz C then doneX C k (b + 1) m many gaps else doneX C k (b + 1) (prM m b j) (many + 1) (gaps + gapF C b j)
theorem up_1 {many : Int32} {b : Nat} (hb : b < 8) (h1 : 0 ≤ many.toInt ∧ many.toInt ≤ b) : (many + 1).toInt = many.toInt + 1 := by
  have o : (1 : Int32).toInt = 1 := rfl
  rw [i_tadd] <;> omega
theorem up_g (hC : VC C) {gaps : Int32} {b q : Nat} (hb : b < sz C) (hq : q < sz C) (h2 : 0 ≤ gaps.toInt ∧ gaps.toInt ≤ 98 * b) : (gaps + gapF C b q).toInt = gaps.toInt + gI C b q := by
  have := gap_b hC hb hq
  have := hC.1.2
  unfold gI at *
  rw [i_tadd] <;> omega
theorem cm_okX (hC : VC C) {k b : Nat} {m : Mt} {many gaps : Int32} (hk : b + (k + 1) = sz C) (hm : mtP C b m) (h1 : 0 ≤ many.toInt ∧ many.toInt ≤ b) (h2 : 0 ≤ gaps.toInt ∧ gaps.toInt ≤ 98 * b) (hs : C.2 b 2 = 0) {j : Nat} (hj : j ≤ sz C) : okX (cmX C k b m many gaps j) ∨ ovM' C (wM C k (b + 1)) b (tgM C m) j = -1000000 := by
  unfold cmX ovM'
  have h8 := hC.1.2
  by_cases e : j = sz C
  · left
    rw [if_pos e]
    exact (done_ok hC (by omega) (by omega) (by omega)).1
  · rw [if_neg e, if_neg e]
    left
    have hg := gap_b hC (show b < sz C by omega) (show j < sz C by omega)
    have a1 := up_1 (many := many) (b := b) (by omega) h1
    have a2 := up_g hC (gaps := gaps) (show b < sz C by omega) (show j < sz C by omega) h2
    exact (done_ok hC (by omega) (by omega) (by omega)).1
theorem cm_v (hC : VC C) {k b : Nat} {m : Mt} {many gaps : Int32} (hk : b + (k + 1) = sz C) (hm : mtP C b m) (h1 : 0 ≤ many.toInt ∧ many.toInt ≤ b) (h2 : 0 ≤ gaps.toInt ∧ gaps.toInt ≤ 98 * b) (hs : C.2 b 2 = 0) {j : Nat} (hj : j ≤ sz C) : valB (cmX C k b m many gaps j) = 1000 * many.toInt - gaps.toInt + ovM' C (wM C k (b + 1)) b (tgM C m) j ∨ ovM' C (wM C k (b + 1)) b (tgM C m) j = -1000000 := by
  unfold cmX ovM'
  have h8 := hC.1.2
  by_cases e : j = sz C
  · left
    rw [if_pos e, if_pos e]
    exact (done_ok hC (by omega) (by omega) (by omega)).2.1
  · rw [if_neg e, if_neg e]
    cases hc : (cp C b j && !tgM C m j) with
    | false => right; exact if_neg (by decide)
    | true =>
      left
      rw [Bool.and_eq_true] at hc
      have hg := gap_b hC (show b < sz C by omega) (show j < sz C by omega)
      have a1 := up_1 (many := many) (b := b) (by omega) h1
      have a2 := up_g hC (gaps := gaps) (show b < sz C by omega) (show j < sz C by omega) h2
      rw [if_pos rfl, (done_ok hC (m := prM m b j) (show b + 1 + k = sz C by omega) (by omega) (by omega)).2.1, pr_tg hc.1 (hm.2 b (Nat.le_refl _) hs), a1, a2]
      omega
theorem cm_done (hC : VC C) {k b : Nat} {m : Mt} {many gaps : Int32} (hk : b + (k + 1) = sz C) (hm : mtP C b m) (h1 : 0 ≤ many.toInt ∧ many.toInt ≤ b) (h2 : 0 ≤ gaps.toInt ∧ gaps.toInt ≤ 98 * b) (hs : C.2 b 2 = 0) : cmX C k b m many gaps (fsM C k b (tgM C m)) = doneX C (k + 1) b m many gaps := by
  have h8 := hC.1.2
  obtain ⟨f1, f2, f3, f4⟩ := fsM_ok (k := k) (T := tgM C m) hC (show b < sz C by omega)
  unfold cmX doneX
  by_cases e : fsM C k b (tgM C m) = sz C
  · rw [if_pos e]
    simp only [cM, rM, if_pos e]
  · rw [if_neg e]
    obtain ⟨c1, c2⟩ := f4 e
    have hq : fsM C k b (tgM C m) < sz C := by omega
    have et := pr_tg (m := m) c1 (hm.2 b (Nat.le_refl _) hs)
    have hg := gap_b hC (show b < sz C by omega) hq
    have a1 := up_1 (many := many) (b := b) (by omega) h1
    have a2 := up_g hC (gaps := gaps) (show b < sz C by omega) hq h2
    obtain ⟨d1, d2, d3, d4, d5⟩ := cM_ok hC k (b + 1) (stB (tgM C m) (fsM C k b (tgM C m))) (by omega)
    simp only [cM, rM, if_neg e]
    rw [et]
    refine Prod.ext ?_ (Prod.ext ?_ rfl)
    · show many + 1 + Int32.ofInt _ = many + Int32.ofInt (_ + 1)
      apply i_ext
      rw [ofI_add (by omega) (by omega), ofI_add (by omega) (by omega), a1]
      omega
    · show gaps + gapF C b _ + Int32.ofInt _ = gaps + Int32.ofInt (_ + gI C b _)
      apply i_ext
      rw [ofI_add (by omega) (by omega), ofI_add (by omega) (by omega), a2]
      omega
theorem may_cp {b q : Nat} (hs : C.2 b 2 = 0 ∧ C.2 b 4 = -1) (hq : C.2 q 2 = 1 ∧ C.2 q 4 = -1) : may C b q = cp C b q := by
  unfold may cp
  apply decide_eq_decide.mpr
  constructor
  · rintro ⟨-, -, -, h⟩
    exact ⟨hs.1, hq.1, hs.2, hq.2, h⟩
  · rintro ⟨-, -, -, -, h⟩
    refine ⟨?_, hs.2, hq.2, h⟩
    rw [hs.1, hq.1]
    decide
theorem dfs_eq (hC : VC C) {k b : Nat} {m : Mt} {many gaps : Int32} {x : Bx} {f : Nat → Bx → Bx} (hk : b + (k + 1) = sz C) (hm : mtP C b m) (h1 : 0 ≤ many.toInt ∧ many.toInt ≤ b) (h2 : 0 ≤ gaps.toInt ∧ gaps.toInt ≤ 98 * b) (hs : C.2 b 2 = 0) (hx : okX x) (hf : ∀ i x, i < sz C + 1 → okX x → f i x = if valB x < 1000 * many.toInt - gaps.toInt + ovM' C (wM C k (b + 1)) b (tgM C m) i then cmX C k b m many gaps i else x) : itF f (sz C + 1) 0 x = dfsX C (k + 1) b m many gaps x := by
  have h8 := hC.1.2
  have okv : ∀ x, okX x → -784 ≤ valB x := fun x h => by
    obtain ⟨a1, a2, a3, a4⟩ := h
    unfold valB
    omega
  have ok : ∀ n i x, i + n ≤ sz C + 1 → okX x → okX (itF f n i x) ∧ itF f n i x = itF (fun i x => if valB x < 1000 * many.toInt - gaps.toInt + ovM' C (wM C k (b + 1)) b (tgM C m) i then cmX C k b m many gaps i else x) n i x := by
    intro n
    induction n with
    | zero => intro i x _ h; exact ⟨h, rfl⟩
    | succ n ih =>
      intro i x h hx
      show okX (itF f n (i + 1) (f i x)) ∧ itF f n (i + 1) (f i x) = itF _ n (i + 1) (if valB x < 1000 * many.toInt - gaps.toInt + ovM' C (wM C k (b + 1)) b (tgM C m) i then cmX C k b m many gaps i else x)
      rw [hf i x (by omega) hx]
      refine ih (i + 1) _ (by omega) ?_
      by_cases c : valB x < 1000 * many.toInt - gaps.toInt + ovM' C (wM C k (b + 1)) b (tgM C m) i
      · rw [if_pos c]
        rcases cm_okX hC hk hm h1 h2 hs (show i ≤ sz C by omega) with h | h
        · exact h
        · have := okv x hx
          omega
      · rw [if_neg c]
        exact hx
  rw [(ok (sz C + 1) 0 x (by omega) hx).2, best_fold (val := valB) (V := 1000 * many.toInt - gaps.toInt) (v := ovM' C (wM C k (b + 1)) b (tgM C m)) (cm := cmX C k b m many gaps) (sz C + 1) (fun j hj => cm_v hC hk hm h1 h2 hs (by omega)) (fun _ _ _ _ => rfl) (sz C + 1) 0 x (by omega) (by have := okv x hx; omega)]
  have ed := cm_done hC hk hm h1 h2 hs
  unfold dfsX
  rw [← ed]
  rfl
end
