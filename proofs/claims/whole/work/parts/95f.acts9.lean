section
variable {g : Nat} {s : tS} {l : tL} {r : Nat → Nat} {C : Co} {G : Lg} {L : Lw}
/-! LEND -/
theorem w_atL {i j : Nat} : p12_at (Int32.ofNat i) (9 + Int32.ofNat j) (mm g s l r) = some (Int32.ofNat (9 + 17 * i + (9 + j))) := by
  have e : (9 : Int32) + Int32.ofNat j = Int32.ofNat (9 + j) := by rw [← i_add]; rfl
  rw [e, p12_at]
  exact congrArg some (w_at (j := 9 + j))
theorem b9_pos {v : Int32} (h : bw 0 9 v) (h0 : ¬ v = 0) : 0 < v := i_ltI.mpr (by
  have z : (0 : Int32).toInt = 0 := rfl
  have : v.toInt ≠ 0 := fun e => h0 (i_ext e)
  have := h.1
  omega)
theorem b9_lt {v : Int32} (h : bw 0 9 v) (h0 : ¬ v = 9) : v < 9 := i_ltI.mpr (by
  have z : (9 : Int32).toInt = 9 := rfl
  have : v.toInt ≠ 9 := fun e => h0 (i_ext e)
  have := h.2
  omega)
theorem b9_inc {v : Int32} (h : bw 0 9 v) (h0 : ¬ v = 9) : bw 0 9 (v + 1) := by
  have z : (9 : Int32).toInt = 9 := rfl
  have o : (1 : Int32).toInt = 1 := rfl
  have h1 : v.toInt ≠ 9 := fun e => h0 (i_ext e)
  have h2 := h.1
  have h3 := h.2
  have e : (v + 1).toInt = v.toInt + 1 := by rw [i_tadd] <;> omega
  constructor <;> omega
theorem b9_dec {v : Int32} (h : bw 0 9 v) (h0 : ¬ v = 0) : bw 0 9 (v - 1) := by
  have z : (0 : Int32).toInt = 0 := rfl
  have o : (1 : Int32).toInt = 1 := rfl
  have h1 : v.toInt ≠ 0 := fun e => h0 (i_ext e)
  have h2 := h.1
  have h3 := h.2
  have e : (v - 1).toInt = v.toInt - 1 := by rw [i_tsub] <;> omega
  constructor <;> omega
theorem b9_n9 : ¬ (9 : Int32) < 9 := by decide
theorem b9_n0 : ¬ (0 : Int32) < 0 := by decide
theorem op_lend {x1 x2 : Int32} : Op g H_lend (fun M => p11_lend (ob g 0) x1 x2 M) (fun M => p12_lend (ob g 287) x1 x2 M) := by
  refine opT2 (x := x1) (y := x2) (by decide) (by decide) (fun s l r e h => ?_) (fun s s1 l r h => ⟨0, ?_⟩) (fun s l r C G L i j hI hc hi hj hn ex ey h t => ?_)
  · simp only [p11_lend, a_gd, h, xb]
  · simp only [p12_lend, w_gd, h, obs, one_z, if_false, p12_lend_J58, p12_lend_J51, p12_lend_J46, p12_lend]
  · subst ex ey
    have hi8 := zc_8 hc.1.1.2.1 hi
    have hj8 := zc_8 hc.1.1.2.1 hj
    have hC := hc.1.2.2.2.2.1
    have h1 := hc.1.1
    have hp := (hC.2.2.2.2.2.2 i hi).2.2.2.2.2.2.2.1
    have hq := (hC.2.2.2.2.2.2 j hj).2.2.2.2.2.2.2.1
    have hx := (hC.2.2.2.2.2.2 i hi).2.2.2.2.2.2.2.2.2 j hj8
    have MA := m287 hc.1.2.2.1 (v := 0)
    by_cases c1 : C.2 i 7 = 0
    · refine Or.inl ⟨1, ?_, by decide, 0, up2 (up2 s 287 0 0) 287 0 3, ?_, rs_thr2, up2_eq⟩
      · simp only [p11_lend, a_gd, h, xb, a_R3, obs, c_at h1 hi, c_at h1 hj, c_p h1 hi (show 7 < 9 by decide), c1, b9_n0, if_false, p11_lend_J60, p11_lend_J61, a_hold_f]
      · simp only [p12_lend, w_gd, t _ _ _ hc.1.2.2.1, obs, if_true, m_of7 MA hi, c1, p12_lend_J46, p12_lend_J51, m_th1, one_z, if_false, p12_lend_J58]
    · by_cases c2 : C.2 j 7 = 9
      · refine Or.inl ⟨1, ?_, by decide, 0, up2 (up2 s 287 0 0) 287 0 3, ?_, rs_thr2, up2_eq⟩
        · simp only [p11_lend, a_gd, h, xb, a_R3, obs, c_at h1 hi, c_at h1 hj, c_p h1 hi (show 7 < 9 by decide), b9_pos hp c1, if_true, c_p h1 hj (show 7 < 9 by decide), c2, b9_n9, if_false, p11_lend_J60, p11_lend_J61, a_hold_f]
        · simp only [p12_lend, w_gd, t _ _ _ hc.1.2.2.1, obs, if_true, m_of7 MA hi, c1, if_false, m_of7 MA hj, c2, p12_lend_J46, p12_lend_J51, m_th1, one_z, p12_lend_J58]
      · by_cases c3 : C.2 i (9 + j) = 9
        · refine Or.inl ⟨1, ?_, by decide, 0, up2 (up2 s 287 0 0) 287 0 3, ?_, rs_thr2, up2_eq⟩
          · simp only [p11_lend, a_gd, h, xb, a_R3, obs, c_at h1 hi, c_at h1 hj, c_p h1 hi (show 7 < 9 by decide), b9_pos hp c1, if_true, c_p h1 hj (show 7 < 9 by decide), b9_lt hq c2, c_lent h1 hi hj, c3, b9_n9, if_false, p11_lend_J60, p11_lend_J61, a_hold_f]
          · simp only [p12_lend, w_gd, t _ _ _ hc.1.2.2.1, obs, if_true, m_of7 MA hi, c1, if_false, m_of7 MA hj, c2, m_ofL MA hi hj8, c3, p12_lend_J46, p12_lend_J51, m_th1, one_z, p12_lend_J58]
        · refine Or.inr (act_of hI hc fun s1 r1 e1 I1 g1 L1 => ?_)
          have e8 : Int32.ofNat i * 8 + Int32.ofNat j = Int32.ofNat (8 * i + j) := by
            rw [show (8 : Int32) = Int32.ofNat 8 from rfl, i_mul, i_add, Nat.mul_comm]
          have v8 : s1 (2 + 3) (8 * i + j) = C.2 i (9 + j) := I1.2.2.2.2.1 i j hi hj8
          have I2 := I1.setL (v := C.2 i (9 + j) + 1) hi hj8
          have I3 := I2.setP (i := i) (k := 7) (v := C.2 i 7 - 1) hi (by decide)
          have I4 := I3.setP (i := j) (k := 7) (v := C.2 j 7 + 1) hj (by decide)
          have hC2 : VC (stP C i (9 + j) (C.2 i (9 + j) + 1)) := hC.setP (by omega) (by omega) (by omega) (by omega) (by omega) (by omega) (by omega) (by omega) (fun _ => b9_inc hx c3)
          have hC3 : VC (stP (stP C i (9 + j) (C.2 i (9 + j) + 1)) i 7 (C.2 i 7 - 1)) := hC2.setP (by omega) (by omega) (by omega) (by omega) (by omega) (by omega) (fun _ => b9_dec hp c1) (by omega) (by omega)
          have hC4 : VC (stP (stP (stP C i (9 + j) (C.2 i (9 + j) + 1)) i 7 (C.2 i 7 - 1)) j 7 (C.2 j 7 + 1)) := hC3.setP (by omega) (by omega) (by omega) (by omega) (by omega) (by omega) (fun _ => b9_inc hq c2) (by omega) (by omega)
          have hi2 : i < sz (stP C i (9 + j) (C.2 i (9 + j) + 1)) := hi
          have hj3 : j < sz (stP (stP C i (9 + j) (C.2 i (9 + j) + 1)) i 7 (C.2 i 7 - 1)) := hj
          have hi4 : i < sz (stP (stP (stP C i (9 + j) (C.2 i (9 + j) + 1)) i 7 (C.2 i 7 - 1)) j 7 (C.2 j 7 + 1)) := hi
          have q2 : (stP C i (9 + j) (C.2 i (9 + j) + 1)).2 i 7 = C.2 i 7 := by rw [P_2, if_neg (by omega)]
          have q3 : (stP (stP C i (9 + j) (C.2 i (9 + j) + 1)) i 7 (C.2 i 7 - 1)).2 j 7 = C.2 j 7 := by rw [P_2, if_neg (by omega), P_2, if_neg (by omega)]
          have q4 : (stP (stP (stP C i (9 + j) (C.2 i (9 + j) + 1)) i 7 (C.2 i 7 - 1)) j 7 (C.2 j 7 + 1)).2 i 7 = C.2 i 7 - 1 := by rw [P_2, if_neg (by omega), P_2, if_pos ⟨rfl, rfl⟩]
          refine ⟨C.2 i 7 - 1, _, _, G, ?_, (Fr.up (by unfold inF; omega)).trans ((fr_P hi8).trans (fr_P hj8)), I4, lg_P hj8 (lg_P hi8 (g1.fr (P := fun o => o = 2 + 3) (Fr.up rfl) (by omega) (by omega))), hC4, hc.1.2.2.2.2.2, fun l1 s4 e4 M2 MA M4 g4 L4 => ?_⟩
          · simp only [p11_lend, a_gd, h, xb, a_R3, obs, c_at h1 hi, c_at h1 hj, c_p h1 hi (show 7 < 9 by decide), b9_pos hp c1, if_true, c_p h1 hj (show 7 < 9 by decide), b9_lt hq c2, c_lent h1 hi hj, b9_lt hx c3, p11_lend_J61, a_hold_t, e1, p2_lendOne, c_gd I1, c_has I1, inR_of h1.2.1 hi, inR_of h1.2.1 hj, ib_t, one_z, if_false, f_R2 I1.1, e8, f_loan I1.1 (show 8 * i + j < 64 by omega), v8, f_loanS I1.1 (show 8 * i + j < 64 by omega), c_at I2 hi2, c_p I2 hi2 (show 7 < 9 by decide), c_P I2 hi2, q2, c_at I3 hj3, c_p I3 hj3 (show 7 < 9 by decide), c_P I3 hj3, q3, p2_lendOne_J59, c_p I4 hi4 (show 7 < 9 by decide), q4, xr, Option.map_some]
          · have M5 := M4.setP (k := 7) (v := C.2 i 7 - 1) hi (by decide)
            have M6 := M5.setP (i := j) (k := 7) (v := C.2 j 7 + 1) hj (by decide)
            have M7 := M6.setP (i := i) (k := 9 + j) (v := C.2 i (9 + j) + 1) hi (by omega)
            have ec : stP (stP (stP C i 7 (C.2 i 7 - 1)) j 7 (C.2 j 7 + 1)) i (9 + j) (C.2 i (9 + j) + 1) = stP (stP (stP C i (9 + j) (C.2 i (9 + j) + 1)) i 7 (C.2 i 7 - 1)) j 7 (C.2 j 7 + 1) := by
              rw [setP_comm (C := stP C i 7 (C.2 i 7 - 1)) (i := j) (k := 7) (by omega), setP_comm (C := C) (i := i) (k := 7) (by omega)]
            rw [ec] at M7
            have rd1 : aldI (mm g s4 l1 r1) (ob g 288) 20 (Int32.ofNat (9 + 17 * i + 7)) = some (C.2 i 7) := by rw [w_ald (by omega), M4.2.2 i 7 hi (by decide)]
            have rd2 : aldI (mm g (up2 s4 288 (9 + 17 * i + 7) (C.2 i 7 - 1)) l1 r1) (ob g 288) 20 (Int32.ofNat (9 + 17 * j + 7)) = some (C.2 j 7) := by rw [w_ald (by omega), M5.2.2 j 7 hj (by decide), P_2, if_neg (by omega)]
            have rd3 : aldI (mm g (up2 (up2 s4 288 (9 + 17 * i + 7) (C.2 i 7 - 1)) 288 (9 + 17 * j + 7) (C.2 j 7 + 1)) l1 r1) (ob g 288) 20 (Int32.ofNat (9 + 17 * i + (9 + j))) = some (C.2 i (9 + j)) := by rw [w_ald (by omega), M6.2.2 i (9 + j) hi (by omega), P_2, if_neg (by omega), P_2, if_neg (by omega)]
            refine ⟨_, ?_, (fw_P hi8 (by decide)).trans ((fw_P hj8 (by decide)).trans (fw_P hi8 (k := 9 + j) (by omega))), M7, lm_P hi8 (by omega) (lm_P hj8 (by decide) (lm_P hi8 (by decide) g4))⟩
            simp only [p12_lend, w_gd, t _ _ _ M2, obs, if_true, m_of7 MA hi, c1, if_false, m_of7 MA hj, c2, m_ofL MA hi hj8, c3, p12_lend_J51, m_th0, e4, w_R1, w_at7, w_atL, rd1, rd2, rd3, m_astP hi8 (show 7 < 17 by decide), m_astP hj8 (show 7 < 17 by decide), m_astP hi8 (show 9 + j < 17 by omega), m_of7 M7 hi4, q4]
end
