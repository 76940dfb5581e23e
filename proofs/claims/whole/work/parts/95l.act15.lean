theorem k114 : lK 114 = 8 := by decide +kernel
section
variable {g : Nat} {s : tS} {l : tL} {r : Nat → Nat} {C : Co} {G : Lg} {L : Lw}
theorem z_gd {β : Type} {T : Option β} : gd (mm g s l r) (ob g 114) 8 T = T := mm_gd k114
theorem z_R0 : getR (mm g s l r) (ob g 114) 8 0 = some (ob g 2) := mm_getR k114 (by decide +kernel) (by decide)
/-! RUNS -/
def wld (C : Co) (i j : Nat) : Bool := if C.2 i 4 = -1 then true else decide (gapF C i j < gapF C i ((C.2 i 4).toInt.toNat))
def run (C : Co) (i j : Nat) : Bool := if C.2 i 2 = 0 ∧ C.2 j 2 = 1 ∧ close C i j = false then (if wld C i j = true then wld C j i else false) else false
theorem sp_k {i : Nat} (hC : VC C) (hi : i < sz C) (h : ¬ C.2 i 4 = -1) : ∃ k, k < sz C ∧ C.2 i 4 = Int32.ofNat k ∧ (C.2 i 4).toInt.toNat = k := by
  rcases (hC.2.2.2.2.2.2 i hi).2.2.2.2.1 with e | ⟨k, hk, e⟩
  · exact absurd e h
  · refine ⟨k, hk, e, ?_⟩
    have := zc_8 hC.1 hk
    rw [e, i_toInt (by omega)]
    rfl
theorem c_wld {i j : Nat} (h : Is s 2 C) (hC : VC C) (hi : i < sz C) (hj : j < sz C) : p7_wouldRather (ob g 114) (Int32.ofNat i) (Int32.ofNat j) (mm g s l r) = some (ib (wld C i j)) := by
  by_cases e : C.2 i 4 = -1
  · simp only [p7_wouldRather, z_gd, z_R0, obs, c_at h hi, c_p h hi (show 4 < 9 by decide), e, if_true, p7_wouldRather_J38, p7_wouldRather_J43, bZ_1, wld, ib_t]
  · obtain ⟨k, hk, ek, et⟩ := sp_k hC hi e
    have e' : ¬ Int32.ofNat k = -1 := by rw [← ek]; exact e
    have ew : wld C i j = decide (gapF C i j < gapF C i k) := by rw [wld, if_neg e, et]
    by_cases d : gapF C i j < gapF C i k
    · simp only [p7_wouldRather, z_gd, z_R0, obs, c_at h hi, c_p h hi (show 4 < 9 by decide), ek, e', if_false, c_gap h hi hj, c_gap h hi hk, d, if_true, p7_wouldRather_J38, p7_wouldRather_J43, bZ_1, ew, decide_true, ib_t]
    · simp only [p7_wouldRather, z_gd, z_R0, obs, c_at h hi, c_p h hi (show 4 < 9 by decide), ek, e', if_false, c_gap h hi hj, c_gap h hi hk, d, p7_wouldRather_J43, bZ_0, ew, decide_false, ib_f]
theorem m_wld {i j : Nat} (h : Ms s C) (hC : VC C) (hi : i < sz C) (hj : j < sz C) : p12_wouldRun (ob g 287) (Int32.ofNat i) (Int32.ofNat j) (mm g s l r) = some (ib (wld C i j)) := by
  by_cases e : C.2 i 4 = -1
  · simp only [p12_wouldRun, w_gd, obs, m_single h hi, e, decide_true, ib_t, one_z, if_false, p12_wouldRun_J28, p12_wouldRun_J33, bZ_1, wld, if_true]
  · obtain ⟨k, hk, ek, et⟩ := sp_k hC hi e
    have e' : ¬ Int32.ofNat k = -1 := by rw [← ek]; exact e
    have ew : wld C i j = decide (gapF C i j < gapF C i k) := by rw [wld, if_neg e, et]
    by_cases d : gapF C i j < gapF C i k
    · simp only [p12_wouldRun, w_gd, obs, m_single h hi, ek, e', decide_false, ib_f, if_true, m_of4 h hi, m_gap h hi hj, m_gap h hi hk, d, p12_wouldRun_J28, p12_wouldRun_J33, bZ_1, ew, decide_true, ib_t]
    · simp only [p12_wouldRun, w_gd, obs, m_single h hi, ek, e', decide_false, ib_f, if_true, m_of4 h hi, m_gap h hi hj, m_gap h hi hk, d, if_false, p12_wouldRun_J33, bZ_0, ew]
theorem wld_sp {i j : Nat} (hC : VC C) (hi : i < sz C) (hj : j < sz C) (h : C.2 i 4 = Int32.ofNat j) : wld C i j = false := by
  have hj8 := zc_8 hC.1 hj
  have n1 : (Int32.ofNat j = -1) = False := nm1 hj8
  have e : ¬ C.2 i 4 = -1 := by rw [h, n1]; exact id
  have et : (C.2 i 4).toInt.toNat = j := by rw [h, i_toInt (by omega)]; rfl
  rw [wld, if_neg e, et]
  exact decide_eq_false Int32.lt_irrefl
def sp_runs (C : Co) : Int32 := iter (fun i x => iter (fun j x => if run C i j = true then x + 1 else x) (sz C) x) (sz C) 0
theorem c_runs (h : Is s 2 C) (hC : VC C) : p7_runaways (ob g 114) (mm g s l r) = some (sp_runs C) := by
  rw [p7_runaways, z_gd]
  refine it_up (fun n a i => p7_runaways_L4 (mm g s l r) n (ob g 114) a i) (sz C) _ some ?_ ?_ gF 0 (sz_gF h.2.1)
  · intro n i a hi
    simp only [p7_runaways_L4, z_R0, obs, c_n h, zc_yes h.2.1 hi, if_true]
    refine it_up (fun m a' j => p7_runaways_L17 (mm g s l r) (p7_runaways_J96 (mm g s l r) (p7_runaways_L4 (mm g s l r) n)) m (ob g 114) a' (Int32.ofNat i) j) (sz C) (fun j x => if run C i j = true then x + 1 else x) (fun a' => p7_runaways_L4 (mm g s l r) n (ob g 114) a' (Int32.ofNat (i + 1))) ?_ ?_ gF a (sz_gF h.2.1)
    · intro m j a' hj
      simp only [p7_runaways_L17, z_R0, obs, c_n h, zc_yes h.2.1 hj, if_true, c_at h hi, c_p h hi (show 2 < 9 by decide), c_at h hj, c_p h hj (show 2 < 9 by decide), c_close h hi hj, c_wld h hC hi hj, c_wld h hC hj hi, ib_z, p7_runaways_J90, i_succ, run]
      by_cases e1 : C.2 i 2 = 0
      · by_cases e2 : C.2 j 2 = 1
        · rcases Bool.eq_false_or_eq_true (close C i j) with e3 | e3
          · simp [e1, e2, e3]
          · rcases Bool.eq_false_or_eq_true (wld C i j) with e4 | e4
            · rcases Bool.eq_false_or_eq_true (wld C j i) with e5 | e5 <;> simp [e1, e2, e3, e4, e5]
            · simp [e1, e2, e3, e4]
        · simp [e1, e2]
      · simp [e1]
    · intro m a'
      simp only [p7_runaways_L17, z_R0, obs, c_n h, zc_no h.2.1, if_false, p7_runaways_J96, i_succ]
  · intro n a
    simp only [p7_runaways_L4, z_R0, obs, c_n h, zc_no h.2.1, if_false]
theorem m_runs (h : Ms s C) (hC : VC C) : p12_runs_L9 gF (ob g 287) 0 0 (mm g s l r) = some (sp_runs C, mm g s l r) := by
  refine it_up (fun n a i => p12_runs_L9 n (ob g 287) a i (mm g s l r)) (sz C) _ (fun a => some (a, mm g s l r)) ?_ ?_ gF 0 (sz_gF h.1)
  · intro n i a hi
    simp only [p12_runs_L9, obs, m_people h, zc_yes h.1 hi, if_true]
    refine it_up (fun m a' j => p12_runs_L19 (p12_runs_J94 (p12_runs_L9 n)) m (ob g 287) a' (Int32.ofNat i) j (mm g s l r)) (sz C) (fun j x => if run C i j = true then x + 1 else x) (fun a' => p12_runs_L9 n (ob g 287) a' (Int32.ofNat (i + 1)) (mm g s l r)) ?_ ?_ gF a (sz_gF h.1)
    · intro m j a' hj
      have z1 : (1 : Int32) = 0 ↔ False := by decide
      have hsx := (hC.2.2.2.2.2.2 j hj).2.2.1
      have hw := wld_sp (i := i) (j := j) hC hi hj
      simp only [p12_runs_L19, obs, m_people h, zc_yes h.1 hj, if_true, m_boy h hi, m_boy h hj, m_close h hi hj, m_of4 h hi, m_wld h hC hi hj, m_wld h hC hj hi, ib_z, p12_runs_J85, p12_runs_J86, i_succ, run, Int32.add_zero]
      by_cases e1 : C.2 i 2 = 0
      · rcases hsx with e2 | e2
        · simp [e1, e2]
        · rcases Bool.eq_false_or_eq_true (close C i j) with e3 | e3
          · simp [e1, e2, e3]
          · by_cases e6 : C.2 i 4 = Int32.ofNat j
            · have e4 := hw e6
              simp [e1, e2, e3, e6, e4]
            · rcases Bool.eq_false_or_eq_true (wld C i j) with e4 | e4
              · rcases Bool.eq_false_or_eq_true (wld C j i) with e5 | e5 <;> simp [e1, e2, e3, e4, e5, e6]
              · simp [e1, e2, e3, e4, e6]
      · simp [e1]
    · intro m a'
      simp only [p12_runs_L19, obs, m_people h, zc_no h.1, if_false, p12_runs_J94, i_succ]
  · intro n a
    simp only [p12_runs_L9, obs, m_people h, zc_no h.1, if_false]
theorem op_runs : Dir1 g (fun M => p11_runs (ob g 0) M) (fun M => p12_runs (ob g 287) M) := dir1_of (sp := sp_runs) (fun s l r C h hC => by simp only [p11_runs, a_gd, a_R16, obs, c_runs h hC]) (fun s l r C h hC => by
  have hM := h.up (o := 287) (k := 0) (v := 0) (by decide)
  simp only [p12_runs, w_gd, w_putI, obs, m_runs hM hC])
end
