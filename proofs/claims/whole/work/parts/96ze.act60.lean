section
variable {g : Nat} {s s' s3 : tS} {l : tL} {r : Nat → Nat} {n m : Nat} {C C' : Co}
theorem k290 : lK 290 = 20 := by decide +kernel
theorem n290 : lNn 290 = 1294 := by decide +kernel
theorem w_R3e : getR (mm g s l r) (ob g 287) 12 3 = some (ob g 290) := mm_getR k287 (by decide +kernel) (by decide)
theorem j_ald {k : Nat} (hk : k < 1294) : aldI (mm g s l r) (ob g 290) 20 (Int32.ofNat k) = some (s 290 k) := mm_aldI k290 n290 hk (by decide)
theorem j_ast {k : Nat} {v : Int32} (hk : k < 1294) : astI (mm g s l r) (ob g 290) (Int32.ofNat k) v = some (mm g (up2 s 290 k v) l r) := mm_astI k290 n290 hk (by decide)
theorem m_keep {K : Nat → mMem → Option (Int32 × mMem)} : p12_family_L2 K gF (ob g 287) 0 (mm g s l r) = K (ob g 287) (mm g (cpS s 290 0 288 0 1294) l r) := by
  obtain ⟨m, hm⟩ := cp_all (g := g) (l := l) (r := r) (s := s) (d := 290) (od := 0) (c := 288) (oc := 0) (Or.inl (by decide)) (fun n i M => p12_family_L2 K n (ob g 287) i M) 1294 (by decide) (fun n i s hi => by
    have c : Int32.ofNat i < 1294 := (i_lt (b := 1294) (by omega) (by decide)).mpr hi
    simp only [p12_family_L2, c, if_true, w_R3e, w_R1, obs, w_ald (show i < 2143 by omega), j_ast hi, i_succ, Nat.zero_add])
  have c : ¬ Int32.ofNat 1294 < 1294 := by decide
  refine Eq.trans hm ?_
  show p12_family_L2 K (m + 1) (ob g 287) (Int32.ofNat 1294) (mm g (cpS s 290 0 288 0 1294) l r) = _
  rw [p12_family_L2, if_neg c]
theorem m_bring : p12_family_L92 gF (ob g 287) 0 (mm g s l r) = some (0, mm g (cpS s 288 0 290 0 1294) l r) := by
  obtain ⟨m, hm⟩ := cp_all (g := g) (l := l) (r := r) (s := s) (d := 288) (od := 0) (c := 290) (oc := 0) (Or.inl (by decide)) (fun n i M => p12_family_L92 n (ob g 287) i M) 1294 (by decide) (fun n i s hi => by
    have c : Int32.ofNat i < 1294 := (i_lt (b := 1294) (by omega) (by decide)).mpr hi
    simp only [p12_family_L92, c, if_true, w_R3e, w_R1, obs, j_ald hi, w_ast (show i < 2143 by omega), i_succ, Nat.zero_add])
  have c : ¬ Int32.ofNat 1294 < 1294 := by decide
  refine Eq.trans hm ?_
  show p12_family_L92 (m + 1) (ob g 287) (Int32.ofNat 1294) (mm g (cpS s 288 0 290 0 1294) l r) = _
  rw [p12_family_L92, if_neg c]
theorem m_fam_f (h : p12_readAll (ob g 287) 1 (mm g (cpS s 290 0 288 0 1294) l r) = some (-1, mm g s3 l r)) : p12_family (ob g 287) (mm g s l r) = some (0, mm g (cpS (up2 (up2 s3 287 14 (s3 287 12)) 287 0 1) 288 0 290 0 1294) l r) := by
  rw [p12_family, w_gd, m_keep]
  simp only [p12_family_J27, h, obs, m1_lt, if_true, w_getI, p12_family_J46, w_putI, p12_family_J59, p12_throwsIf, w_gd, one_z, if_false, p12_throwsIf_J9, bZ_1, p12_family_J90, m_bring]
theorem w_ald1 : aldI (mm g s l r) (ob g 288) 20 1 = some (s 288 1) := w_ald (k := 1) (by decide)
theorem w_ast1 {v : Int32} : astI (mm g s l r) (ob g 288) 1 v = some (mm g (up2 s 288 1 v) l r) := w_ast (k := 1) (by decide)
theorem m_fam_12 (h : p12_readAll (ob g 287) 1 (mm g (cpS s 290 0 288 0 1294) l r) = some (Int32.ofNat m, mm g s3 l r)) (hm : m < 100) (ht : s3 288 1 = 12) : p12_family (ob g 287) (mm g s l r) = some (0, mm g (cpS (up2 (up2 s3 287 14 (-1)) 287 0 2) 288 0 290 0 1294) l r) := by
  have c : (Int32.ofNat m < 0) = False := eq_false (i_nlt0 (by omega))
  have ht' : up2 s3 287 14 (-1) 288 1 = 12 := by rw [up2_ne (by omega)]; exact ht
  rw [p12_family, w_gd, m_keep]
  simp only [p12_family_J27, h, obs, c, if_false, p12_family_J46, w_putI, p12_family_J59, p12_throwsIf, w_gd, if_true, p12_throwsIf_J9, bZ_0, w_R1, w_ald1, ht', p12_family_J83, one_z, bZ_1, p12_family_J90, m_bring]
theorem m_fam_t (h : p12_readAll (ob g 287) 1 (mm g (cpS s 290 0 288 0 1294) l r) = some (Int32.ofNat m, mm g s3 l r)) (hm : m < 100) (ht : s3 288 1 ≠ 12) : p12_family (ob g 287) (mm g s l r) = some (s3 288 1 + 1, mm g (up2 (up2 (up2 s3 287 14 (-1)) 288 1 (s3 288 1 + 1)) 287 7 0) l r) := by
  have c : (Int32.ofNat m < 0) = False := eq_false (i_nlt0 (by omega))
  have e1 : up2 s3 287 14 (-1) 288 1 = s3 288 1 := up2_ne (by omega)
  have e2 : up2 (up2 (up2 s3 287 14 (-1)) 288 1 (s3 288 1 + 1)) 287 7 0 288 1 = s3 288 1 + 1 := by rw [up2_ne (by omega), up2_eq]
  rw [p12_family, w_gd, m_keep]
  simp only [p12_family_J27, h, obs, c, if_false, p12_family_J46, w_putI, p12_family_J59, p12_throwsIf, w_gd, if_true, p12_throwsIf_J9, bZ_0, w_R1, w_ald1, e1, ht, p12_family_J83, w_ast1, e2]
end
