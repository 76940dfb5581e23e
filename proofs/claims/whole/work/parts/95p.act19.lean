section
variable {g b : Nat} {s : tS} {l : tL} {r : Nat → Nat} {C : Co} {G : Lg} {L : Lw}
/-! COUNT -/
def ctF (C : Co) (i : Nat) (a : Int32 × Int32 × Int32) : Int32 × Int32 × Int32 := (a.1 + C.2 i 1, (if C.2 i 2 = 0 then a.2.1 ||| bt i else a.2.1), (if C.2 i 4 = -1 then a.2.2 else a.2.2 ||| bt i))
def ctN (C : Co) (n : Nat) : Int32 × Int32 × Int32 := (iter (fun i x => x + C.2 i 1) n 0, iter (fun i x => if C.2 i 2 = 0 then x ||| bt i else x) n 0, iter (fun i x => if C.2 i 4 = -1 then x else x ||| bt i) n 0)
theorem ct_eq : ∀ n, iter (ctF C) n (0, 0, 0) = ctN C n := by
  intro n
  induction n with
  | zero => rfl
  | succ n ih =>
    show ctF C n (iter (ctF C) n (0, 0, 0)) = _
    rw [ih]
    rfl
theorem c_turns (h : Is s b C) : p2_turnsTogether (ob g b) (mm g s l r) = some (ctN C (sz C)).1 := by
  rw [p2_turnsTogether, c_gd h]
  refine it_up (fun n a i => p2_turnsTogether_L4 (mm g s l r) n (ob g b) a i) (sz C) (fun i x => x + C.2 i 1) some ?_ ?_ gF 0 (sz_gF h.2.1)
  · intro n i a hi
    simp only [p2_turnsTogether_L4, obs, c_n h, zc_yes h.2.1 hi, if_true, c_at h hi, c_p h hi (show 1 < 9 by decide), i_succ]
  · intro n a
    simp only [p2_turnsTogether_L4, obs, c_n h, zc_no h.2.1, if_false]
theorem c_boys (h : Is s b C) : p2_boys (ob g b) (mm g s l r) = some (ctN C (sz C)).2.1 := by
  rw [p2_boys, c_gd h]
  refine it_up (fun n a i => p2_boys_L4 (mm g s l r) n (ob g b) a i) (sz C) (fun i x => if C.2 i 2 = 0 then x ||| bt i else x) some ?_ ?_ gF 0 (sz_gF h.2.1)
  · intro n i a hi
    simp only [p2_boys_L4, obs, c_n h, zc_yes h.2.1 hi, if_true, c_at h hi, c_p h hi (show 2 < 9 by decide), p2_boys_J29, i_succ, bt]
    by_cases e : C.2 i 2 = 0 <;> simp [e]
  · intro n a
    simp only [p2_boys_L4, obs, c_n h, zc_no h.2.1, if_false]
theorem c_wedd (h : Is s b C) : p2_wedded (ob g b) (mm g s l r) = some (ctN C (sz C)).2.2 := by
  rw [p2_wedded, c_gd h]
  refine it_up (fun n a i => p2_wedded_L4 (mm g s l r) n (ob g b) a i) (sz C) (fun i x => if C.2 i 4 = -1 then x else x ||| bt i) some ?_ ?_ gF 0 (sz_gF h.2.1)
  · intro n i a hi
    simp only [p2_wedded_L4, obs, c_n h, zc_yes h.2.1 hi, if_true, c_at h hi, c_p h hi (show 4 < 9 by decide), p2_wedded_J30, i_succ, bt]
    by_cases e : C.2 i 4 = -1 <;> simp [e]
  · intro n a
    simp only [p2_wedded_L4, obs, c_n h, zc_no h.2.1, if_false]
theorem m_ct {x1 : Int32} (h : Ms s C) : p12_count_L15 p12_count_J82 gF (ob g 287) x1 0 0 0 0 (mm g s l r) = p12_count_J82 (ob g 287) x1 (ctN C (sz C)).1 (ctN C (sz C)).2.1 (ctN C (sz C)).2.2 (mm g s l r) := by
  have := it_up (fun n (a : Int32 × Int32 × Int32) i => p12_count_L15 p12_count_J82 n (ob g 287) x1 a.1 a.2.1 a.2.2 i (mm g s l r)) (sz C) (ctF C) (fun a => p12_count_J82 (ob g 287) x1 a.1 a.2.1 a.2.2 (mm g s l r)) (fun n i a hi => by
    simp only [p12_count_L15, obs, m_people h, zc_yes h.1 hi, if_true, m_of1 h hi, m_boy h hi, m_single h hi, ib_z, p12_count_J52, p12_count_J73, i_succ, bt, or0, ctF]
    by_cases e1 : C.2 i 2 = 0 <;> by_cases e2 : C.2 i 4 = -1 <;> simp [e1, e2]) (fun n a => by
    simp only [p12_count_L15, obs, m_people h, zc_no h.1, if_false]) gF (0, 0, 0) (sz_gF h.1)
  rw [ct_eq] at this
  exact this
theorem op_count {x1 : Int32} : Dir1 g (fun M => p11_count (ob g 0) x1 M) (fun M => p12_count (ob g 287) x1 M) := by
  intro s l r hI
  obtain ⟨C, G, L, n, p, hc, ht, hp, hk, hr⟩ := id hI
  have h1 := hc.1.1
  have gC := hc.1.2.1
  have u288 : up2 s 287 0 0 288 = s 288 := funext fun j => up2_ne (by omega)
  have gM : LgM (up2 s 287 0 0 288) G := by
    rw [u288]
    exact hc.1.2.2.2.1
  have MA := m287 hc.1.2.2.1 (v := 0)
  have hR3 : getR (mm g s l r) (ob g 2) 3 3 = some (ob g (2 + 4)) := f_R3 h1.1
  have K : ∀ v, p11_count (ob g 0) x1 (mm g s l r) = some v → p12_count_J82 (ob g 287) x1 (ctN C (sz C)).1 (ctN C (sz C)).2.1 (ctN C (sz C)).2.2 (mm g (up2 s 287 0 0) l r) = some (v, mm g (up2 s 287 0 0) l r) → ∃ v s1, p11_count (ob g 0) x1 (mm g s l r) = some v ∧ p12_count (ob g 287) x1 (mm g s l r) = some (v, mm g s1 l r) ∧ INV s1 r := by
    intro v e1 e2
    refine ⟨v, up2 s 287 0 0, e1, ?_, hI.rs rs_thr⟩
    simp only [p12_count, w_gd, w_putI, obs, m_ct MA, e2]
  rcases Bool.eq_false_or_eq_true (inL 0 12 x1) with hx | hx
  · obtain ⟨j, hj, rfl⟩ := inL_nat (n := 12) (by omega) hx
    have hj' : j = 0 ∨ j = 1 ∨ j = 2 ∨ j = 3 ∨ j = 4 ∨ j = 5 ∨ j = 6 ∨ j = 7 ∨ j = 8 ∨ j = 9 ∨ j = 10 ∨ j = 11 ∨ j = 12 := by omega
    rcases hj' with rfl | rfl | rfl | rfl | rfl | rfl | rfl | rfl | rfl | rfl | rfl | rfl | rfl
    · refine K (C.1 0) ?_ ?_
      · simp (decide := true) only [p11_count, a_gd, a_R3, obs, swI, if_true, if_false, c_n h1]
      · simp (decide := true) only [p12_count_J82, obs, swI, if_true, if_false, m_in, show inL 0 6 0 = true from by decide, ib_t, one_z, w_R1, p12_count_J208, show aldI (mm g (up2 s 287 0 0) l r) (ob g 288) 20 (Int32.ofNat 0) = some (C.1 0) from m_n MA]
    · refine K (C.1 1) ?_ ?_
      · simp (decide := true) only [p11_count, a_gd, a_R3, obs, swI, if_true, if_false, c_texts h1]
      · simp (decide := true) only [p12_count_J82, obs, swI, if_true, if_false, m_in, show inL 0 6 1 = true from by decide, ib_t, one_z, w_R1, p12_count_J208, show aldI (mm g (up2 s 287 0 0) l r) (ob g 288) 20 (Int32.ofNat 1) = some (C.1 1) from m_1 MA]
    · have a2 : aldI (mm g (up2 s 287 0 0) l r) (ob g 288) 20 2 = some (ib (lwH L)) := by
        have := w_ald (g := g) (s := up2 s 287 0 0) (l := l) (r := r) (k := 2) (by decide)
        rw [u288, hc.2.2.1.1] at this
        exact this
      have a445 : aldI (mm g (up2 s 287 0 0) l r) (ob g 288) 20 445 = some (s 288 445) := by
        have := w_ald (g := g) (s := up2 s 287 0 0) (l := l) (r := r) (k := 445) (by decide)
        rw [u288] at this
        exact this
      have e9 := hc.2.1.1
      rcases Bool.eq_false_or_eq_true (lwH L) with e | e
      · have f := hc.2.2.1.2.1 e
        rw [e, if_pos rfl] at e9
        refine K (Int32.ofNat (lwC L)) ?_ ?_
        · simp (decide := true) only [p11_count, a_gd, a_R5, obs, swI, if_true, if_false, l_I (show 30 ∈ lBL by decide), e9]
        · simp (decide := true) only [p12_count_J82, obs, swI, if_true, if_false, w_R1, a2, e, ib_t, a445, f, p12_count_J162]
      · rw [e, if_neg (by decide)] at e9
        refine K (-1) ?_ ?_
        · simp (decide := true) only [p11_count, a_gd, a_R5, obs, swI, if_true, if_false, l_I (show 30 ∈ lBL by decide), e9]
        · simp (decide := true) only [p12_count_J82, obs, swI, if_true, if_false, w_R1, a2, e, ib_f, p12_count_J162]
    · refine K (C.1 3) ?_ ?_
      · simp (decide := true) only [p11_count, a_gd, a_R3, obs, swI, if_true, if_false, c_day h1]
      · simp (decide := true) only [p12_count_J82, obs, swI, if_true, if_false, m_in, show inL 0 6 3 = true from by decide, ib_t, one_z, w_R1, p12_count_J208, show aldI (mm g (up2 s 287 0 0) l r) (ob g 288) 20 (Int32.ofNat 3) = some (C.1 3) from m_3 MA]
    · refine K (C.1 4) ?_ ?_
      · simp (decide := true) only [p11_count, a_gd, a_R3, obs, swI, if_true, if_false, c_round h1]
      · simp (decide := true) only [p12_count_J82, obs, swI, if_true, if_false, m_in, show inL 0 6 4 = true from by decide, ib_t, one_z, w_R1, p12_count_J208, show aldI (mm g (up2 s 287 0 0) l r) (ob g 288) 20 (Int32.ofNat 4) = some (C.1 4) from m_4 MA]
    · refine K (C.1 5) ?_ ?_
      · simp (decide := true) only [p11_count, a_gd, a_R3, obs, swI, if_true, if_false, c_ripe h1]
      · simp (decide := true) only [p12_count_J82, obs, swI, if_true, if_false, m_in, show inL 0 6 5 = true from by decide, ib_t, one_z, w_R1, p12_count_J208, show aldI (mm g (up2 s 287 0 0) l r) (ob g 288) 20 (Int32.ofNat 5) = some (C.1 5) from m_5 MA]
    · refine K (C.1 6) ?_ ?_
      · simp (decide := true) only [p11_count, a_gd, a_R3, obs, swI, if_true, if_false, c_step h1]
      · simp (decide := true) only [p12_count_J82, obs, swI, if_true, if_false, m_in, show inL 0 6 6 = true from by decide, ib_t, one_z, w_R1, p12_count_J208, show aldI (mm g (up2 s 287 0 0) l r) (ob g 288) 20 (Int32.ofNat 6) = some (C.1 6) from m_6 MA]
    · refine K (sp_ages C) ?_ ?_
      · simp (decide := true) only [p11_count, a_gd, a_R3, obs, swI, if_true, if_false, tc_ages h1]
      · simp (decide := true) only [p12_count_J82, obs, swI, if_true, if_false, tm_ages MA]
    · refine K ((ctN C (sz C)).1) ?_ ?_
      · simp (decide := true) only [p11_count, a_gd, a_R3, obs, swI, if_true, if_false, c_turns h1]
      · simp (decide := true) only [p12_count_J82, obs, swI, if_true, if_false, p12_count_J208]
    · refine K ((ctN C (sz C)).2.1) ?_ ?_
      · simp (decide := true) only [p11_count, a_gd, a_R3, obs, swI, if_true, if_false, c_boys h1]
      · simp (decide := true) only [p12_count_J82, obs, swI, if_true, if_false, p12_count_J208]
    · refine K ((ctN C (sz C)).2.2) ?_ ?_
      · simp (decide := true) only [p11_count, a_gd, a_R3, obs, swI, if_true, if_false, c_wedd h1]
      · simp (decide := true) only [p12_count_J82, obs, swI, if_true, if_false, p12_count_J208]
    · refine K (Int32.ofNat G.1) ?_ ?_
      · simp (decide := true) only [p11_count, a_gd, a_R3, obs, swI, if_true, if_false, hR3, c_logn h1 gC]
      · simp (decide := true) only [p12_count_J82, obs, swI, if_true, if_false, w_R1, m_logn gM]
    · have e7 : up2 s 287 0 0 287 7 = s 0 10 := by rw [up2_ne (by omega), hp.2.2.1, hp.2.1]
      refine K (s 0 10) ?_ ?_
      · simp (decide := true) only [p11_count, a_gd, obs, swI, if_true, if_false, a_I]
      · simp (decide := true) only [p12_count_J82, obs, swI, if_true, if_false, w_getI, e7]
  · have nk : ∀ k : Int32, inL 0 12 k = true → (x1 = k) = False := fun k hk => eq_false fun e => by
      rw [e, hk] at hx
      cases hx
    have h6 : inL 0 6 x1 = false := by
      rcases Bool.eq_false_or_eq_true (inL 0 6 x1) with e | e
      · have a := of_decide_eq_true e
        have c : ¬ (12 : Int32) < x1 := fun h => a.2 (i_ltI.mpr (by
          have := i_ltI.mp h
          have t6 : (6 : Int32).toInt = 6 := rfl
          have t12 : (12 : Int32).toInt = 12 := rfl
          omega))
        have : inL 0 12 x1 = true := decide_eq_true ⟨a.1, c⟩
        rw [this] at hx
        cases hx
      · exact e
    refine K (-1) ?_ ?_
    · simp only [p11_count, a_gd, obs, swI, nk 0 (by decide), nk 1 (by decide), nk 2 (by decide), nk 3 (by decide), nk 4 (by decide), nk 5 (by decide), nk 6 (by decide), nk 7 (by decide), nk 8 (by decide), nk 9 (by decide), nk 10 (by decide), nk 11 (by decide), nk 12 (by decide), if_false]
    · simp only [p12_count_J82, obs, swI, nk 0 (by decide), nk 1 (by decide), nk 2 (by decide), nk 3 (by decide), nk 4 (by decide), nk 5 (by decide), nk 6 (by decide), nk 7 (by decide), nk 8 (by decide), nk 9 (by decide), nk 10 (by decide), nk 11 (by decide), nk 12 (by decide), if_false, m_in, h6, ib_f, if_true, p12_count_J208]
end
