section
variable {g : Nat} {s : tS} {l : tL} {r : Nat → Nat} {C : Co} {G : Lg} {L : Lw}
/-! SAY -/
theorem inF_t {s1 s2 : tS} (f : Fr (fun o => 2 ≤ o ∧ o < 2 + 14) s1 s2) : Fr (inF 2) s1 s2 := f.mono (fun o ho => Or.inl ho)
theorem op_say {x1 x2 : Int32} {x3 : Bool} : Op g H_say (fun M => p11_say (ob g 0) x1 x2 (ib x3) M) (fun M => p12_say (ob g 287) x1 x2 (ib x3) M) := by
  refine op_of fun s l r C G L hI hc hr => ?_
  have h1 := hc.1.1
  have h3 := hc.1.2.2.1
  have hC := hc.1.2.2.2.2.1
  rcases Bool.eq_false_or_eq_true (inR C x1) with hx | hx
  · rcases Bool.eq_false_or_eq_true (inR C x2) with hy | hy
    · obtain ⟨i, hi, rfl⟩ := inR_i h1.2.1 hx
      obtain ⟨j, hj, rfl⟩ := inR_i h1.2.1 hy
      rcases Bool.eq_false_or_eq_true (gv C i j) with hg | hg
      · refine Or.inr (act_of hI hc fun s1 r1 e1 I1 g1 L1 => ?_)
        obtain ⟨s2, e2, f2⟩ := c_wt (g := g) (l := l) (r := r1) (y := x3) I1 L1 hc.2.2.2 (by have := vc_r hC; omega) hi hj
        obtain ⟨s3, e3, I3, g3, f3⟩ := c_tell (g := g) (l := l) (r := r1) (I1.frW f2) (g1.frW (by decide) f2) hj (x := Int32.ofNat i) (w := wtF L C i j x3) (y := x3)
        refine ⟨movedF C (C.2 j 0) (wtF L C i j x3) x3, s3, tellF C j x3 (wtF L C i j x3), push G (rowF (C.1 3) (Int32.ofNat i) (Int32.ofNat j) x3 (movedF C (C.2 j 0) (wtF L C i j x3) x3)), ?_, (inW_F f2).trans (inF_t f3), I3, g3, hC.tell hj (wt_bw hc.2.2.2 hC), vg_push hc.1.2.2.2.2.2 row_3, fun l1 s4 e4 M2 MA M4 g4 L4 => ?_⟩
        · simp only [p11_say, a_gd, a_be_t h1 hx, a_be_t h1 hy, xb, a_R3, obs, c_gov h1 hi hj, hg, ib_t, a_hold_t, e1, a_R5, e2, e3, xr, Option.map_some]
        · obtain ⟨s5, e5, M5, g5, f5⟩ := m_says (g := g) (l := l1) (r := r1) (y := x3) M4 g4 L4 hc.2.2.2 hC hi hj
          refine ⟨s5, ?_, f5, M5, g5⟩
          have ea : p12_of (ob g 287) (Int32.ofNat j) 0 (mm g s5 l1 r1) = some (movedF C (C.2 j 0) (wtF L C i j x3) x3) := by
            rw [m_of0 M5 (i := j) hj]
            exact congrArg some up2_eq
          simp only [p12_say, w_gd, w_putI, obs, m_nob_t MA hx, m_nob_t MA hy, if_true, p12_say_J27, m_th0, m_gov MA hj, hg, ib_t, one_z, if_false, p12_say_J49, e4, e5, ea]
      · have MA := m287 h3 (v := 0)
        refine Or.inl ⟨1, ?_, by decide, 0, up2 (up2 s 287 0 0) 287 0 2, ?_, rs_thr2, up2_eq⟩
        · simp only [p11_say, a_gd, a_be_t h1 hx, a_be_t h1 hy, xb, a_R3, obs, c_gov h1 hi hj, hg, ib_f, a_hold_f]
        · simp only [p12_say, w_gd, w_putI, obs, m_nob_t MA hx, m_nob_t MA hy, if_true, p12_say_J27, m_th0, m_gov MA hj, hg, ib_f, p12_say_J49, m_th1, one_z, if_false, p12_say_J56, p12_say_J49, p12_say_J27, p12_say_J22, p12_say]
    · have MA := m287 h3 (v := 0)
      refine Or.inl ⟨2, ?_, by decide, 0, up2 (up2 s 287 0 0) 287 0 1, ?_, rs_thr2, up2_eq⟩
      · simp only [p11_say, a_gd, a_be_t h1 hx, a_be_f (k := 0) h1 hy, xb]
      · simp only [p12_say, w_gd, w_putI, obs, m_nob_t MA hx, m_nob_f MA hy, if_true, one_z, if_false, p12_say_J56, p12_say_J49, p12_say_J27, p12_say_J22, p12_say, m_th1]
  · have MA := m287 h3 (v := 0)
    refine Or.inl ⟨2, ?_, by decide, 0, up2 (up2 s 287 0 0) 287 0 1, ?_, rs_thr2, up2_eq⟩
    · simp only [p11_say, a_gd, a_be_f (k := 0) h1 hx, xb]
    · simp only [p12_say, w_gd, w_putI, obs, m_nob_f MA hx, one_z, if_false, p12_say_J56, p12_say_J49, p12_say_J27, p12_say_J22, p12_say, m_th1]
/-! WED -/
theorem gap_ext {C C' : Co} {i j : Nat} (h4 : C'.1 4 = C.1 4) (hi : C'.2 i 0 = C.2 i 0) (hj : C'.2 j 0 = C.2 j 0) : gapF C' i j = gapF C i j := by
  unfold gapF
  rw [h4, hi, hj]
theorem op_wed {x1 x2 : Int32} : Op g H_wed (fun M => p11_wed (ob g 0) x1 x2 M) (fun M => p12_wed (ob g 287) x1 x2 M) := by
  refine opT2 (x := x1) (y := x2) (by decide) (by decide) (fun s l r e h => ?_) (fun s s1 l r h => ⟨0, ?_⟩) (fun s l r C G L i j hI hc hi hj hn ex ey h t => ?_)
  · simp only [p11_wed, a_gd, h, xb]
  · simp only [p12_wed, w_gd, h, obs, one_z, if_false, p12_wed_J31, p12_wed_J24, p12_wed]
  · subst ex ey
    have hi8 := zc_8 hc.1.1.2.1 hi
    have hj8 := zc_8 hc.1.1.2.1 hj
    have hC := hc.1.2.2.2.2.1
    rcases Bool.eq_false_or_eq_true (may C i j) with hm | hm
    · refine Or.inr (act_of hI hc fun s1 r1 e1 I1 g1 L1 => ?_)
      have I2 := I1.setP (k := 4) (v := Int32.ofNat j) hi (by decide)
      have I3 := I2.setP (i := j) (k := 4) (v := Int32.ofNat i) hj (by decide)
      have hC2 : VC (stP C i 4 (Int32.ofNat j)) := hC.setP (by omega) (by omega) (by omega) (by omega) (fun _ => Or.inr ⟨j, hj, rfl⟩) (by omega) (by omega) (by omega) (by omega)
      have hC3 : VC (stP (stP C i 4 (Int32.ofNat j)) j 4 (Int32.ofNat i)) := hC2.setP (by omega) (by omega) (by omega) (by omega) (fun _ => Or.inr ⟨i, hi, rfl⟩) (by omega) (by omega) (by omega) (by omega)
      have hj2 : j < sz (stP C i 4 (Int32.ofNat j)) := hj
      have hi2 : i < sz (stP C i 4 (Int32.ofNat j)) := hi
      have hj3 : j < sz (stP (stP C i 4 (Int32.ofNat j)) j 4 (Int32.ofNat i)) := hj
      have hi3 : i < sz (stP (stP C i 4 (Int32.ofNat j)) j 4 (Int32.ofNat i)) := hi
      refine ⟨gapF (stP (stP C i 4 (Int32.ofNat j)) j 4 (Int32.ofNat i)) i j, _, _, G, ?_, (fr_P hi8).trans (fr_P hj8), I3, lg_P hj8 (lg_P hi8 g1), hC3, hc.1.2.2.2.2.2, fun l1 s4 e4 M2 MA M4 g4 L4 => ?_⟩
      · simp only [p11_wed, a_gd, h, xb, a_R3, obs, c_may hc.1.1 hi hj, hm, ib_t, a_hold_t, e1, p2_join, c_gd I1, c_at I1 hi, c_P I1 hi, c_at I2 hj2, c_P I2 hj2, c_gap I3 hi3 hj3, xr, Option.map_some]
      · have M5 := M4.setP (k := 4) (v := Int32.ofNat j) hi (by decide)
        have M6 := M5.setP (i := j) (k := 4) (v := Int32.ofNat i) hj (by decide)
        refine ⟨_, ?_, (fw_P hi8 (by decide)).trans (fw_P hj8 (by decide)), M6, lm_P hj8 (by decide) (lm_P hi8 (by decide) g4)⟩
        simp only [p12_wed, w_gd, t _ _ _ M2, obs, if_true, m_may MA hi hj, hm, ib_t, one_z, if_false, p12_wed_J24, m_th0, e4, p12_weds, w_R1, w_at4, m_astP hi8 (show 4 < 17 by decide), m_astP hj8 (show 4 < 17 by decide), m_gap M6 hi3 hj3]
    · have MA := m287 hc.1.2.2.1 (v := 0)
      refine Or.inl ⟨1, ?_, by decide, 0, up2 (up2 s 287 0 0) 287 0 3, ?_, rs_thr2, up2_eq⟩
      · simp only [p11_wed, a_gd, h, xb, a_R3, obs, c_may hc.1.1 hi hj, hm, ib_f, a_hold_f]
      · simp only [p12_wed, w_gd, t _ _ _ hc.1.2.2.1, obs, if_true, m_may MA hi hj, hm, ib_f, p12_wed_J24, m_th1, one_z, if_false, p12_wed_J31, p12_wed_J24, p12_wed]
/-! PART -/
theorem op_part {x1 : Int32} : Op g H_part (fun M => p11_part (ob g 0) x1 M) (fun M => p12_part (ob g 287) x1 M) := by
  refine opP2 (x := x1) (by decide) (fun s l r h => ?_) (fun s l r h => ⟨0, ?_⟩) (fun s l r C G L i hI hc hi ex h hn => ?_)
  · simp only [p11_part, a_gd, h, xb]
  · simp only [p12_part, w_gd, w_putI, obs, h, m_th1, one_z, if_false, p12_part_J31, p12_part]
  · subst ex
    have hi8 := zc_8 hc.1.1.2.1 hi
    have hC := hc.1.2.2.2.2.1
    have h1 := hc.1.1
    by_cases hs : C.2 i 4 = -1
    · have MA := m287 hc.1.2.2.1 (v := 0)
      refine Or.inl ⟨1, ?_, by decide, 0, up2 (up2 s 287 0 0) 287 0 2, ?_, rs_thr2, up2_eq⟩
      · simp only [p11_part, a_gd, h, xb, a_R3, obs, c_at h1 hi, c_p h1 hi (show 4 < 9 by decide), hs, if_true, p11_part_J27, a_hold_f]
      · simp only [p12_part, w_gd, w_putI, obs, hn _ _ _ MA, m_th0, if_true, m_single MA hi, hs, decide_true, ib_t, m_th1, one_z, if_false, p12_part_J31, p12_part]
    · obtain ⟨k, hk, ek⟩ : ∃ k, k < sz C ∧ C.2 i 4 = Int32.ofNat k := by
        rcases (hC.2.2.2.2.2.2 i hi).2.2.2.2.1 with h | h
        · exact absurd h hs
        · exact h
      have hk8 := zc_8 hc.1.1.2.1 hk
      refine Or.inr (act_of hI hc fun s1 r1 e1 I1 g1 L1 => ?_)
      have I2 := I1.setP (k := 4) (v := -1) hi (by decide)
      have hk2 : k < sz (stP C i 4 (-1)) := hk
      have I3 := I2.setP (i := k) (k := 4) (v := -1) hk (by decide)
      have hC2 : VC (stP C i 4 (-1)) := hC.setP (by omega) (by omega) (by omega) (by omega) (fun _ => Or.inl rfl) (by omega) (by omega) (by omega) (by omega)
      have hC3 : VC (stP (stP C i 4 (-1)) k 4 (-1)) := hC2.setP (by omega) (by omega) (by omega) (by omega) (fun _ => Or.inl rfl) (by omega) (by omega) (by omega) (by omega)
      have hs' : (Int32.ofNat k = -1) = False := nm1 hk8
      refine ⟨Int32.ofNat k, _, _, G, ?_, (fr_P hi8).trans (fr_P hk8), I3, lg_P hk8 (lg_P hi8 g1), hC3, hc.1.2.2.2.2.2, fun l1 s4 e4 M2 MA M4 g4 L4 => ?_⟩
      · simp only [p11_part, a_gd, h, xb, a_R3, obs, c_at h1 hi, c_p h1 hi (show 4 < 9 by decide), ek, hs', if_false, p11_part_J27, a_hold_t, e1, c_at I1 hi, c_P I1 hi, c_at I2 hk2, c_P I2 hk2, xr, Option.map_some]
      · have M5 := M4.setP (k := 4) (v := -1) hi (by decide)
        have M6 := M5.setP (i := k) (k := 4) (v := -1) hk (by decide)
        refine ⟨_, ?_, (fw_P hi8 (by decide)).trans (fw_P hk8 (by decide)), M6, lm_P hk8 (by decide) (lm_P hi8 (by decide) g4)⟩
        have hsd : decide (Int32.ofNat k = -1) = false := decide_eq_false (by rw [hs']; exact id)
        simp only [p12_part, w_gd, w_putI, obs, hn _ _ _ MA, m_th0, if_true, m_single MA hi, ek, hsd, ib_f, e4, m_of4 M4 hi, w_R1, w_at4, m_astP hi8 (show 4 < 17 by decide), m_astP hk8 (show 4 < 17 by decide)]
/-! USE -/
theorem op_use {x1 : Int32} : Op g H_use (fun M => p11_use (ob g 0) x1 M) (fun M => p12_use (ob g 287) x1 M) := by
  refine opP2 (x := x1) (by decide) (fun s l r h => ?_) (fun s l r h => ⟨0, ?_⟩) (fun s l r C G L i hI hc hi ex h hn => ?_)
  · simp only [p11_use, a_gd, h, xb]
  · simp only [p12_use, w_gd, w_putI, obs, h, m_th1, one_z, if_false, p12_use_J41, p12_use_J34, p12_use]
  · subst ex
    have hi8 := zc_8 hc.1.1.2.1 hi
    have hC := hc.1.2.2.2.2.1
    have h1 := hc.1.1
    have hp := (hC.2.2.2.2.2.2 i hi).2.2.2.2.2.2.2.1
    by_cases hs : C.2 i 7 = 0
    · have MA := m287 hc.1.2.2.1 (v := 0)
      have n0 : ¬ (0 : Int32) < 0 := by decide
      refine Or.inl ⟨1, ?_, by decide, 0, up2 (up2 s 287 0 0) 287 0 2, ?_, rs_thr2, up2_eq⟩
      · simp only [p11_use, a_gd, h, xb, a_R3, obs, c_at h1 hi, c_p h1 hi (show 7 < 9 by decide), hs, n0, if_false, p11_use_J24, a_hold_f]
      · simp only [p12_use, w_gd, w_putI, obs, hn _ _ _ MA, m_th0, if_true, m_of7 MA hi, hs, p12_use_J34, m_th1, one_z, if_false, p12_use_J41, p12_use_J34, p12_use]
    · have z0 : (0 : Int32).toInt = 0 := rfl
      have hpos : (0 : Int32) < C.2 i 7 := i_ltI.mpr (by
        have : (C.2 i 7).toInt ≠ 0 := fun e => hs (i_ext e)
        have := hp.1
        omega)
      have hpos' := i_ltI.mp hpos
      have o1 : (1 : Int32).toInt = 1 := rfl
      have hb : bw 0 9 (C.2 i 7 - 1) := by
        have e : (C.2 i 7 - 1).toInt = (C.2 i 7).toInt - 1 := by rw [i_tsub] <;> have := hp.2 <;> omega
        have := hp.2
        constructor <;> omega
      refine Or.inr (act_of hI hc fun s1 r1 e1 I1 g1 L1 => ?_)
      have I2 := I1.setP (k := 7) (v := C.2 i 7 - 1) hi (by decide)
      have hC2 : VC (stP C i 7 (C.2 i 7 - 1)) := hC.setP (by omega) (by omega) (by omega) (by omega) (by omega) (by omega) (fun _ => hb) (by omega) (by omega)
      have hr := vc_r hC
      have h6 := hC.2.2.2.1
      have hw : 0 ≤ (rem32 (C.1 6) (C.1 4)).toInt ∧ (rem32 (C.1 6) (C.1 4)).toInt < (C.1 4).toInt := by
        rw [rem32_toInt h6.1 (by omega)]
        exact ⟨Int.emod_nonneg _ (by omega), Int.emod_lt_of_pos _ (by omega)⟩
      obtain ⟨C2, hc2⟩ : ∃ C2, C2 = stP C i 7 (C.2 i 7 - 1) := ⟨_, rfl⟩
      rw [← hc2] at I2 hC2
      have k4 : C2.1 4 = C.1 4 := by rw [hc2, P_1]
      have k6 : C2.1 6 = C.1 6 := by rw [hc2, P_1]
      have hi2 : i < sz C2 := by rw [hc2]; exact hi
      obtain ⟨s3, e3, I3, g3, f3⟩ := c_tell (g := g) (l := l) (r := r1) I2 (lg_P hi8 g1) hi2 (x := Int32.ofNat i) (w := rem32 (C.1 6) (C.1 4)) (y := true)
      refine ⟨movedF C2 (C2.2 i 0) (rem32 (C.1 6) (C.1 4)) true, s3, tellF C2 i true (rem32 (C.1 6) (C.1 4)), push G (rowF (C2.1 3) (Int32.ofNat i) (Int32.ofNat i) true (movedF C2 (C2.2 i 0) (rem32 (C.1 6) (C.1 4)) true)), ?_, (fr_P hi8).trans (inF_t f3), I3, g3, hC2.tell hi2 (by rw [k4]; exact hw), vg_push hc.1.2.2.2.2.2 row_3, fun l1 s4 e4 M2 MA M4 g4 L4 => ?_⟩
      · have e3' : p2_tell (ob g 2) (Int32.ofNat i) (Int32.ofNat i) 1 (rem32 (C.1 6) (C.1 4)) (mm g (up2 s1 (2 + 6 + i) 7 (C.2 i 7 - 1)) l r1) = some (movedF C2 (C2.2 i 0) (rem32 (C.1 6) (C.1 4)) true, mm g s3 l r1) := e3
        have hr2 : 0 < (C2.1 4).toInt := by rw [k4]; omega
        simp only [p11_use, a_gd, h, xb, a_R3, obs, c_at h1 hi, c_p h1 hi (show 7 < 9 by decide), hpos, if_true, p11_use_J24, a_hold_t, e1, c_at I1 hi, c_p I1 hi (show 7 < 9 by decide), c_P I1 hi, c_step I2, c_left I2 hr2, k4, k6, e3', xr, Option.map_some]
      · have M5 := M4.setP (k := 7) (v := C.2 i 7 - 1) hi (by decide)
        rw [← hc2] at M5
        have rd : aldI (mm g s4 l1 r1) (ob g 288) 20 (Int32.ofNat (9 + 17 * i + 7)) = some (C.2 i 7) := by rw [w_ald (by omega), M4.2.2 i 7 hi (by decide)]
        obtain ⟨s6, e6, M6, f6⟩ := m_grows (g := g) (l := l1) (r := r1) (y := true) M5 hC2 hi2 (w := rem32 (C.1 6) (C.1 4)) (by rw [k4]; exact hw)
        have g5 : LgM (up2 s4 288 (9 + 17 * i + 7) (C.2 i 7 - 1) 288) G := lm_P hi8 (by decide) g4
        obtain ⟨s7, e7, M7, g7, f7⟩ := m_tells (g := g) (l := l1) (r := r1) M6 (g5.fm f6) (q := i) hi2 (x := Int32.ofNat i) (y := true)
        have ea : (tellF C2 i true (rem32 (C.1 6) (C.1 4))).2 i 0 = movedF C2 (C2.2 i 0) (rem32 (C.1 6) (C.1 4)) true := up2_eq
        rw [ea] at g7
        have e6' : p12_grows (ob g 287) (Int32.ofNat i) (rem32 (C.1 6) (C.1 4)) 1 (mm g (up2 s4 288 (9 + 17 * i + 7) (C.2 i 7 - 1)) l1 r1) = some (mm g s6 l1 r1) := e6
        have e7' : p12_tells (ob g 287) (Int32.ofNat i) (Int32.ofNat i) 1 (mm g s6 l1 r1) = some (mm g s7 l1 r1) := e7
        have eo : p12_of (ob g 287) (Int32.ofNat i) 0 (mm g s7 l1 r1) = some (movedF C2 (C2.2 i 0) (rem32 (C.1 6) (C.1 4)) true) := by
          rw [m_of0 M7 (i := i) hi2]
          exact congrArg some up2_eq
        refine ⟨s7, ?_, ((fw_P hi8 (by decide)).trans (f6.mono (fun i hi => pCL hi))).trans f7, M7, g7⟩
        simp only [p12_use, w_gd, w_putI, obs, hn _ _ _ MA, m_th0, if_true, m_of7 MA hi, hs, if_false, p12_use_J34, e4, w_R1, w_at7, rd, m_astP hi8 (show 7 < 17 by decide), m_6 M5, m_4 M5, k4, k6, remI_ne (i_nz (show 0 < (C.1 4).toInt by omega)), e6', e7', eo]
end
