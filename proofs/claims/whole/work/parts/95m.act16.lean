section
variable {g b : Nat} {s : tS} {l : tL} {r : Nat → Nat} {C : Co} {G : Lg} {L : Lw}
/-! the log's cells -/
theorem c_logn (h : Is s b C) (hG : LgC s b G) : getI (mm g s l r) (ob g (b + 4)) 7 2 = some (Int32.ofNat G.1) := by rw [f_logI h.1, hG.1]
theorem c_cell (h : Is s b C) (hG : LgC s b G) {k j : Nat} (hk : k < G.1) (hj : j < 5) : p6_cell (ob g (b + 4)) (Int32.ofNat k) (Int32.ofNat j) (mm g s l r) = some (G.2 k j) := by
  have hb := h.1
  have hn := c_logn (g := g) (l := l) (r := r) h hG
  obtain ⟨h1, h2, nx, h3, h4, h5⟩ := hG
  have n0 : ∀ {n : Nat}, n < 300 → (Int32.ofNat n < 0) = False := fun hn => eq_false (by
    intro c
    have := i_ltI.mp c
    rw [i_toInt (by omega), show (0 : Int32).toInt = 0 from rfl] at this
    omega)
  have lk : (Int32.ofNat k < Int32.ofNat G.1) = True := eq_true ((i_lt (by omega) (by omega)).mpr hk)
  have lj : (Int32.ofNat j < 5) = True := eq_true ((i_lt (b := 5) (by omega) (by decide)).mpr hj)
  have v := h5 k j hk hj
  have hlt : 5 * ((nx + 59 - k) % 60) + j < 300 := by omega
  have key : ∀ u0 : Int32, u0 = Int32.ofNat ((nx + 59 - k) % 60) → p6_cell_J44 (mm g s l r) (ob g (b + 4)) (Int32.ofNat j) u0 = some (G.2 k j) := by
    intro u0 hu
    have e : u0 * 5 + Int32.ofNat j = Int32.ofNat (5 * ((nx + 59 - k) % 60) + j) := by
      rw [hu, i_mul5, i_add, Nat.mul_comm]
    have l3 : (Int32.ofNat (5 * ((nx + 59 - k) % 60) + j) < Int32.ofNat 300) = True := eq_true ((i_lt (by omega) (by decide)).mpr hlt)
    have l3' : (Int32.ofNat (5 * ((nx + 59 - k) % 60) + j) < 300) = True := l3
    have ln : lenA (mm g s l r) (ob g (b + 5)) = some 300 := f_len5 hb
    simp only [p6_cell_J44, e, n0 hlt, if_false, f_logR hb, obs, ln, l3', if_true, f_cell hb hlt, v, p6_cell_J76]
  have o1 : (1 : Int32).toInt = 1 := rfl
  have z0 : (0 : Int32).toInt = 0 := rfl
  have s0 : (60 : Int32).toInt = 60 := rfl
  have ex : (Int32.ofNat nx).toInt = (nx : Int) := i_toInt (by omega)
  have ek : (Int32.ofNat k).toInt = (k : Int) := i_toInt (by omega)
  have d1 : (Int32.ofNat nx - 1).toInt = (nx : Int) - 1 := by rw [i_tsub] <;> omega
  have d2 : (Int32.ofNat nx - 1 - Int32.ofNat k).toInt = (nx : Int) - 1 - k := by rw [i_tsub] <;> omega
  have em : (Int32.ofNat ((nx + 59 - k) % 60)).toInt = (((nx + 59 - k) % 60 : Nat) : Int) := i_toInt (by omega)
  by_cases c : Int32.ofNat nx - 1 - Int32.ofNat k < 0
  · have c' := i_ltI.mp c
    have hu : Int32.ofNat nx - 1 - Int32.ofNat k + 60 = Int32.ofNat ((nx + 59 - k) % 60) := i_ext (by
      rw [em, i_tadd] <;> omega)
    simp only [p6_cell, f_loggd hb, n0 (show k < 300 by omega), if_false, hn, obs, lk, if_true, n0 (show j < 300 by omega), lj, f_logI hb, h4, c, key _ hu]
  · have c' : ¬ (Int32.ofNat nx - 1 - Int32.ofNat k).toInt < (0 : Int32).toInt := fun h => c (i_ltI.mpr h)
    have hu : Int32.ofNat nx - 1 - Int32.ofNat k = Int32.ofNat ((nx + 59 - k) % 60) := i_ext (by
      rw [em]
      omega)
    simp only [p6_cell, f_loggd hb, n0 (show k < 300 by omega), if_false, hn, obs, lk, if_true, n0 (show j < 300 by omega), lj, f_logI hb, h4, c, key _ hu]
theorem m_logn (hG : LgM (s 288) G) : aldI (mm g s l r) (ob g 288) 20 7 = some (Int32.ofNat G.1) := by
  have := w_ald (g := g) (s := s) (l := l) (r := r) (k := 7) (by decide)
  rw [hG.1] at this
  exact this
theorem m_ofLog (hG : LgM (s 288) G) {k j : Nat} (hk : k < G.1) (hj : j < 5) : p12_ofLog (ob g 287) (Int32.ofNat k) (Int32.ofNat j) (mm g s l r) = some (G.2 k j) := by
  have h2 := hG.2.1
  have e : (145 : Int32) + (5 : Int32) * Int32.ofNat k + Int32.ofNat j = Int32.ofNat (145 + 5 * k + j) := by
    rw [← i_add, ← i_add, ← i_mul]
    rfl
  simp only [p12_ofLog, w_gd, w_R1, obs, e, w_ald (show 145 + 5 * k + j < 2143 by omega), hG.2.2 k j hk hj]
/-! LOG -/
theorem op_log {x1 x2 : Int32} : Op g H_log (fun M => (p11_log (ob g 0) x1 x2 M).map (fun z => match z with | .inl e => .inl e | .inr v => .inr (v, M))) (fun M => p12_log (ob g 287) x1 x2 M) := by
  refine op_of fun s l r C G L hI hc hr => ?_
  have h1 := hc.1.1
  have gC := hc.1.2.1
  have MA := m287 hc.1.2.2.1 (v := 0)
  have gM : LgM (up2 s 287 0 0 288) G := by
    have u288 : up2 s 287 0 0 288 = s 288 := funext fun j => up2_ne (by omega)
    rw [u288]
    exact hc.1.2.2.2.1
  have z0 : (0 : Int32).toInt = 0 := rfl
  have o1 : (1 : Int32).toInt = 1 := rfl
  have t4 : (4 : Int32).toInt = 4 := rfl
  have t5 : (5 : Int32).toInt = 5 := rfl
  rcases Bool.eq_false_or_eq_true (inL 0 4 x2) with hx | hx
  · obtain ⟨j, hj, rfl⟩ := inL_nat (n := 4) (by omega) hx
    have hj5 : j < 5 := by omega
    have tj : (Int32.ofNat j).toInt = (j : Int) := i_toInt (by omega)
    have b0 : ¬ Int32.ofNat j < 0 := fun c => by have := i_ltI.mp c; omega
    have b5 : Int32.ofNat j < 5 := i_ltI.mpr (by omega)
    have hG60 := gC.2.1
    have tg : (Int32.ofNat G.1).toInt = (G.1 : Int) := i_toInt (by omega)
    have tg1 : (Int32.ofNat G.1 - 1).toInt = (G.1 : Int) - 1 := by rw [i_tsub] <;> omega
    have hn := c_logn (g := g) (l := l) (r := r) h1 gC
    have hgd : ∀ {T : Option Int32}, gd (mm g s l r) (ob g (2 + 4)) 7 T = T := f_loggd h1.1
    have hR3 : getR (mm g s l r) (ob g 2) 3 3 = some (ob g (2 + 4)) := f_R3 h1.1
    have fin : ∀ v, p6_cell (ob g (2 + 4)) x1 (Int32.ofNat j) (mm g s l r) = some v → (∀ l1 : tL, p12_log_J20 (ob g 287) x1 (Int32.ofNat j) (ob g 287) 0 (mm g (up2 s 287 0 0) l1 r) = some (v, mm g (up2 s 287 0 0) l1 r)) → Good g (fun M => (p11_log (ob g 0) x1 (Int32.ofNat j) M).map (fun z => match z with | .inl e => .inl e | .inr v => .inr (v, M))) (fun M => p12_log (ob g 287) x1 (Int32.ofNat j) M) s l r := by
      intro v e1 e2
      refine ⟨v, s, r, ?_, fun l1 => ⟨up2 s 287 0 0, ?_, up2_eq, hI.rs rs_thr⟩⟩
      · simp only [p11_log, a_gd, b0, if_false, b5, if_true, a_R3, obs, hR3, e1, xr, Option.map_some]
      · simp only [p12_log, w_gd, w_putI, obs, m_in, hx, ib_t, one_z, if_false, e2]
    refine Or.inr ?_
    by_cases c1 : x1 < 0
    · refine fin (-1) ?_ fun l1 => ?_
      · simp only [p6_cell, hgd, c1, if_true, p6_cell_J21]
      · have hx1 : inL 0 (Int32.ofNat G.1 - 1) x1 = false := decide_eq_false (fun h => h.1 c1)
        simp only [p12_log_J20, m_th0, obs, if_true, w_R1, m_logn gM, m_in, hx1, ib_f, p12_log_J56]
    · have c1' : ¬ x1.toInt < (0 : Int32).toInt := fun h => c1 (i_ltI.mpr h)
      by_cases c2 : x1 < Int32.ofNat G.1
      · have c2' := i_ltI.mp c2
        have hx1 : inL 0 (Int32.ofNat G.1 - 1) x1 = true := decide_eq_true ⟨c1, fun h => by
          have := i_ltI.mp h
          omega⟩
        obtain ⟨k, hk, rfl⟩ : ∃ k, k < G.1 ∧ x1 = Int32.ofNat k := by
          refine ⟨x1.toInt.toNat, by omega, i_ext ?_⟩
          rw [i_toInt (by omega)]
          omega
        refine fin (G.2 k j) (c_cell h1 gC hk hj5) fun l1 => ?_
        simp only [p12_log_J20, m_th0, obs, if_true, w_R1, m_logn gM, m_in, hx1, ib_t, one_z, if_false, m_ofLog gM hk hj5, p12_log_J56]
      · have c2' : ¬ x1.toInt < (Int32.ofNat G.1).toInt := fun h => c2 (i_ltI.mpr h)
        refine fin (-1) ?_ fun l1 => ?_
        · simp only [p6_cell, hgd, c1, if_false, hn, obs, c2, p6_cell_J21]
        · have hx1 : inL 0 (Int32.ofNat G.1 - 1) x1 = false := decide_eq_false (fun h => h.2 (i_ltI.mpr (by omega)))
          simp only [p12_log_J20, m_th0, obs, if_true, w_R1, m_logn gM, m_in, hx1, ib_f, p12_log_J56]
  · refine Or.inl ⟨4, ?_, by decide, 0, up2 (up2 s 287 0 0) 287 0 1, ?_, rs_thr2, up2_eq⟩
    · by_cases c1 : x2 < 0
      · simp only [p11_log, a_gd, c1, if_true, p11_log_J9, thr, mm_X, Option.map_some]
      · have c2 : ¬ x2 < 5 := fun c => by
          have := of_decide_eq_false hx
          refine this ⟨c1, fun h => ?_⟩
          have a := i_ltI.mp h
          have b := i_ltI.mp c
          omega
        simp only [p11_log, a_gd, c1, if_false, c2, p11_log_J9, thr, mm_X, if_true, Option.map_some]
    · simp only [p12_log, w_gd, w_putI, obs, m_in, hx, ib_f, if_true, p12_log_J20, m_th1, one_z, if_false]
end
