section
variable {g : Nat} {s : tS} {l : tL} {r : Nat → Nat} {C : Co} {G : Lg} {L : Lw}
/-! FEED -/
theorem k_1 : lK 1 = 20 := by decide +kernel
theorem n_1 : lNn 1 = 400 := by decide +kernel
theorem k_293 : lK 293 = 21 := by decide +kernel
theorem n_293 : lNn 293 = 400 := by decide +kernel
theorem k_294 : lK 294 = 20 := by decide +kernel
theorem n_294 : lNn 294 = 5 := by decide +kernel
theorem t1_ald {k : Nat} (hk : k < 400) : aldI (mm g s l r) (ob g 1) 20 (Int32.ofNat k) = some (s 1 k) := mm_aldI k_1 n_1 hk (by decide)
theorem t1_ast {k : Nat} {v : Int32} (hk : k < 400) : astI (mm g s l r) (ob g 1) (Int32.ofNat k) v = some (mm g (up2 s 1 k v) l r) := mm_astI k_1 n_1 hk (by decide)
theorem t1_len : lenA (mm g s l r) (ob g 1) = some 400 := by rw [mm_lenA (by rw [k_1]; decide), n_1]; rfl
theorem w_R8 : getR (mm g s l r) (ob g 287) 12 8 = some (ob g 293) := mm_getR k287 (by decide +kernel) (by decide)
theorem w_R15 : getR (mm g s l r) (ob g 287) 12 15 = some (ob g 294) := mm_getR k287 (by decide +kernel) (by decide)
theorem f5_ald {k : Nat} (hk : k < 5) : aldI (mm g s l r) (ob g 294) 20 (Int32.ofNat k) = some (s 294 k) := mm_aldI k_294 n_294 hk (by decide)
theorem f5_ast {k : Nat} {v : Int32} (hk : k < 5) : astI (mm g s l r) (ob g 294) (Int32.ofNat k) v = some (mm g (up2 s 294 k v) l r) := mm_astI k_294 n_294 hk (by decide)
theorem t2_ast {k : Nat} {v : Int32} (hk : k < 400) : astB (mm g s l r) (ob g 293) (Int32.ofNat k) v = some (mm g (up2 s 293 k (vp_nar .byte v)) l r) := mm_astB k_293 n_293 hk (by decide)
def ps1 (s : tS) (m : Nat) (x sh : Int32) : tS := up2 (up2 s 1 m (ushr x sh &&& 255)) 0 1 (Int32.ofNat (m + 1))
theorem put_1 {m k : Nat} {x sh : Int32} (hs : s 0 1 = Int32.ofNat m) (hm : m < 400) (hh : ¬ sh < 0) : p11_putOnTape_L3 (k + 1) (ob g 0) x sh (mm g s l r) = p11_putOnTape_L3 k (ob g 0) x (sh + (-8)) (mm g (ps1 s m x sh) l r) := by
  have c1 : ¬ Int32.ofNat m < 0 := i_nlt0 (by omega)
  have c2 : Int32.ofNat m < 400 := (i_lt (b := 400) (by omega) (by decide)).mpr hm
  have e1 : up2 s 1 m (ushr x sh &&& 255) 0 1 = Int32.ofNat m := by rw [up2_ne (by omega), hs]
  simp only [p11_putOnTape_L3, hh, if_false, a_I, hs, obs, c1, a_R0, t1_len, c2, if_true, t1_ast hm, e1, a_P, i_succ, p11_putOnTape_J52]
  rfl
theorem ps1_n {m : Nat} {x sh : Int32} : ps1 s m x sh 0 1 = Int32.ofNat (m + 1) := up2_eq
theorem ps1_v {m : Nat} {x sh : Int32} : ps1 s m x sh 1 m = ushr x sh &&& 255 := by
  unfold ps1
  rw [up2_ne (by omega), up2_eq]
theorem ps1_j {m j : Nat} {x sh : Int32} (h : j ≠ m) : ps1 s m x sh 1 j = s 1 j := by
  unfold ps1
  rw [up2_ne (by omega), up2_ne (by omega)]
theorem ps1_o {m o k : Nat} {x sh : Int32} (h1 : o ≠ 1) (h0 : ¬ (o = 0 ∧ k = 1)) : ps1 s m x sh o k = s o k := by
  unfold ps1
  rw [up2_ne h0, up2_ne (by omega)]
def ps4 (s : tS) (m : Nat) (x : Int32) : tS := ps1 (ps1 (ps1 (ps1 s m x 24) (m + 1) x 16) (m + 2) x 8) (m + 3) x 0
theorem put_4 {m : Nat} {x : Int32} (hs : s 0 1 = Int32.ofNat m) (hm : m + 4 ≤ 400) : p11_putOnTape (ob g 0) x (mm g s l r) = some (mm g (ps4 s m x) l r) := by
  rw [p11_putOnTape, a_gd]
  show p11_putOnTape_L3 (gF - 5 + 1 + 1 + 1 + 1 + 1) (ob g 0) x 24 (mm g s l r) = _
  have q1 : (24 : Int32) + (-8) = 16 := by decide
  have q2 : (16 : Int32) + (-8) = 8 := by decide
  have q3 : (8 : Int32) + (-8) = 0 := by decide
  rw [put_1 hs (by omega) (by decide), q1, put_1 (ps1_n) (by omega) (by decide), q2, put_1 (ps1_n) (by omega) (by decide), q3, put_1 (ps1_n) (by omega) (by decide)]
  have q4 : (0 : Int32) + (-8) < 0 := by decide
  simp only [p11_putOnTape_L3, q4, if_true]
  rfl
theorem ps4_n {m : Nat} {x : Int32} : ps4 s m x 0 1 = Int32.ofNat (m + 4) := ps1_n
def shV (j : Nat) : Int32 := Int32.ofNat (24 - 8 * j)
theorem ps4_v {m j : Nat} {x : Int32} (hj : j < 4) : ps4 s m x 1 (m + j) = ushr x (shV j) &&& 255 := by
  unfold ps4
  have : j = 0 ∨ j = 1 ∨ j = 2 ∨ j = 3 := by omega
  rcases this with rfl | rfl | rfl | rfl
  · rw [show m + 0 = m from rfl, ps1_j (by omega), ps1_j (by omega), ps1_j (by omega), ps1_v]
    rfl
  · rw [ps1_j (by omega), ps1_j (by omega), ps1_v]
    rfl
  · rw [ps1_j (by omega), ps1_v]
    rfl
  · rw [ps1_v]
    rfl
theorem ps4_j {m j : Nat} {x : Int32} (h : j < m) : ps4 s m x 1 j = s 1 j := by
  unfold ps4
  rw [ps1_j (by omega), ps1_j (by omega), ps1_j (by omega), ps1_j (by omega)]
theorem ps4_o {m o k : Nat} {x : Int32} (h1 : o ≠ 1) (h0 : ¬ (o = 0 ∧ k = 1)) : ps4 s m x o k = s o k := by
  unfold ps4
  rw [ps1_o h1 h0, ps1_o h1 h0, ps1_o h1 h0, ps1_o h1 h0]
def fvX (x1 x2 x3 x4 x5 : Int32) (k : Nat) : Int32 := if k = 0 then x1 else if k = 1 then x2 else if k = 2 then x3 else if k = 3 then x4 else x5
def ps20 (s : tS) (m : Nat) (x1 x2 x3 x4 x5 : Int32) : tS := ps4 (ps4 (ps4 (ps4 (ps4 s m x1) (m + 4) x2) (m + 4 + 4) x3) (m + 4 + 4 + 4) x4) (m + 4 + 4 + 4 + 4) x5
theorem ps20_v {m k : Nat} {x1 x2 x3 x4 x5 : Int32} (hk : k < 20) : ps20 s m x1 x2 x3 x4 x5 1 (m + k) = ushr (fvX x1 x2 x3 x4 x5 (k / 4)) (shV (k % 4)) &&& 255 := by
  unfold ps20
  have h4 : k % 4 < 4 := Nat.mod_lt _ (by decide)
  have hd : k = 4 * (k / 4) + k % 4 := (Nat.div_add_mod k 4).symm
  have hq : k / 4 < 5 := by omega
  generalize k / 4 = q at *
  generalize k % 4 = j at *
  have : q = 0 ∨ q = 1 ∨ q = 2 ∨ q = 3 ∨ q = 4 := by omega
  rcases this with rfl | rfl | rfl | rfl | rfl
  · rw [ps4_j (by omega), ps4_j (by omega), ps4_j (by omega), ps4_j (by omega), show m + k = m + j by omega, ps4_v h4]
    rfl
  · rw [ps4_j (by omega), ps4_j (by omega), ps4_j (by omega), show m + k = m + 4 + j by omega, ps4_v h4]
    rfl
  · rw [ps4_j (by omega), ps4_j (by omega), show m + k = m + 4 + 4 + j by omega, ps4_v h4]
    rfl
  · rw [ps4_j (by omega), show m + k = m + 4 + 4 + 4 + j by omega, ps4_v h4]
    rfl
  · rw [show m + k = m + 4 + 4 + 4 + 4 + j by omega, ps4_v h4]
    rfl
theorem ps20_j {m j : Nat} {x1 x2 x3 x4 x5 : Int32} (h : j < m) : ps20 s m x1 x2 x3 x4 x5 1 j = s 1 j := by
  unfold ps20
  rw [ps4_j (by omega), ps4_j (by omega), ps4_j (by omega), ps4_j (by omega), ps4_j (by omega)]
theorem ps20_o {m o k : Nat} {x1 x2 x3 x4 x5 : Int32} (h1 : o ≠ 1) (h0 : ¬ (o = 0 ∧ k = 1)) : ps20 s m x1 x2 x3 x4 x5 o k = s o k := by
  unfold ps20
  rw [ps4_o h1 h0, ps4_o h1 h0, ps4_o h1 h0, ps4_o h1 h0, ps4_o h1 h0]
theorem ps20_n {m : Nat} {x1 x2 x3 x4 x5 : Int32} : ps20 s m x1 x2 x3 x4 x5 0 1 = Int32.ofNat (m + 20) := ps4_n
def wvX (x : Int32) (j : Nat) : Int32 := vp_nar .byte (i2b (x >>> (((24 : Int32) - ((8 : Int32) * Int32.ofNat j)) &&& 31)))
theorem i8_ext {x y : Int32} (h : ∀ i, i < 8 → x.toBitVec.getLsbD i = y.toBitVec.getLsbD i) : x.toInt8 = y.toInt8 := by
  apply Int8.toBitVec_inj.mp
  apply BitVec.eq_of_getLsbD_eq
  intro i hi
  have e1 : x.toInt8.toBitVec = x.toBitVec.signExtend 8 := rfl
  have e2 : y.toInt8.toBitVec = y.toBitVec.signExtend 8 := rfl
  rw [e1, e2, BitVec.getLsbD_signExtend, BitVec.getLsbD_signExtend]
  have : i < 32 := by omega
  simp only [this, if_true, h i hi]
theorem nar_2 {x : Int32} : vp_nar .byte (i2b x) = i2b x := by
  show x.toInt8.toInt32.toInt8.toInt32 = x.toInt8.toInt32
  rw [Int8.toInt8_toInt32]
theorem and255 {x y : BitVec 32} {i : Nat} (hi : i < 8) (h : x.getLsbD i = y.getLsbD i) : (x &&& 255#32).getLsbD i = y.getLsbD i := by
  rw [BitVec.getLsbD_and, h]
  have : (255#32).getLsbD i = true := by
    have : ∀ i, i < 8 → (255#32).getLsbD i = true := by decide
    exact this i hi
  rw [this, Bool.and_true]
theorem byte_eq {x : Int32} {j : Nat} (hj : j < 4) : wvX x j = i2b (ushr x (shV j) &&& 255) := by
  unfold wvX
  rw [nar_2]
  unfold i2b
  congr 1
  apply i8_ext
  intro i hi
  symm
  have h31 : i < 32 := by omega
  have : j = 0 ∨ j = 1 ∨ j = 2 ∨ j = 3 := by omega
  rcases this with rfl | rfl | rfl | rfl
  · have e2 : (ushr x (shV 0) &&& 255).toBitVec = (x.toBitVec >>> 24) &&& 255#32 := rfl
    have e1 : (x >>> (((24 : Int32) - ((8 : Int32) * Int32.ofNat 0)) &&& 31)).toBitVec = x.toBitVec.sshiftRight 24 := rfl
    rw [e1, e2]
    apply and255 hi
    rw [BitVec.getLsbD_sshiftRight, BitVec.getLsbD_ushiftRight]
    have a : ¬ 32 ≤ i := by omega
    have c : 24 + i < 32 := by omega
    simp [a, c]
  · have e2 : (ushr x (shV 1) &&& 255).toBitVec = (x.toBitVec >>> 16) &&& 255#32 := rfl
    have e1 : (x >>> (((24 : Int32) - ((8 : Int32) * Int32.ofNat 1)) &&& 31)).toBitVec = x.toBitVec.sshiftRight 16 := rfl
    rw [e1, e2]
    apply and255 hi
    rw [BitVec.getLsbD_sshiftRight, BitVec.getLsbD_ushiftRight]
    have a : ¬ 32 ≤ i := by omega
    have c : 16 + i < 32 := by omega
    simp [a, c]
  · have e2 : (ushr x (shV 2) &&& 255).toBitVec = (x.toBitVec >>> 8) &&& 255#32 := rfl
    have e1 : (x >>> (((24 : Int32) - ((8 : Int32) * Int32.ofNat 2)) &&& 31)).toBitVec = x.toBitVec.sshiftRight 8 := rfl
    rw [e1, e2]
    apply and255 hi
    rw [BitVec.getLsbD_sshiftRight, BitVec.getLsbD_ushiftRight]
    have a : ¬ 32 ≤ i := by omega
    have c : 8 + i < 32 := by omega
    simp [a, c]
  · have e2 : (ushr x (shV 3) &&& 255).toBitVec = (x.toBitVec >>> 0) &&& 255#32 := rfl
    have e1 : (x >>> (((24 : Int32) - ((8 : Int32) * Int32.ofNat 3)) &&& 31)).toBitVec = x.toBitVec.sshiftRight 0 := rfl
    rw [e1, e2]
    apply and255 hi
    rw [BitVec.getLsbD_sshiftRight, BitVec.getLsbD_ushiftRight]
    have a : ¬ 32 ≤ i := by omega
    have c : 0 + i < 32 := by omega
    simp [a, c]
theorem byte_u (y : Int32) : ∃ u, u < 256 ∧ y &&& 255 = Int32.ofNat u := by
  have h : (y &&& 255).toBitVec.toNat ≤ 255 := by
    rw [Int32.toBitVec_and, BitVec.toNat_and]
    exact Nat.and_le_right
  refine ⟨(y &&& 255).toBitVec.toNat, by omega, ?_⟩
  apply i_ext
  rw [i_toInt (by omega)]
  have e : (y &&& 255).toInt = (y &&& 255).toBitVec.toInt := rfl
  rw [e, BitVec.toInt_eq_toNat_of_lt (by omega)]
theorem dm4 : ∀ i, i < 20 → Int32.ofNat i / 4 = Int32.ofNat (i / 4) ∧ rem32 (Int32.ofNat i) 4 = Int32.ofNat (i % 4) := by decide
theorem four_nz : (4 : Int32) ≠ 0 := by decide
def fed5 (s : tS) (x1 x2 x3 x4 x5 : Int32) : tS := up2 (up2 (up2 (up2 (up2 (up2 s 287 0 0) 294 0 x1) 294 1 x2) 294 2 x3) 294 3 x4) 294 4 x5
theorem fed5_o {o k : Nat} {x1 x2 x3 x4 x5 : Int32} (h1 : o ≠ 294) (h2 : ¬ (o = 287 ∧ k = 0)) : fed5 s x1 x2 x3 x4 x5 o k = s o k := by
  unfold fed5
  rw [up2_ne (by omega), up2_ne (by omega), up2_ne (by omega), up2_ne (by omega), up2_ne (by omega), up2_ne h2]
theorem fed5_v {k : Nat} {x1 x2 x3 x4 x5 : Int32} (hk : k < 5) : fed5 s x1 x2 x3 x4 x5 294 k = fvX x1 x2 x3 x4 x5 k := by
  have : k = 0 ∨ k = 1 ∨ k = 2 ∨ k = 3 ∨ k = 4 := by omega
  unfold fed5
  rcases this with rfl | rfl | rfl | rfl | rfl
  · rw [up2_ne (by omega), up2_ne (by omega), up2_ne (by omega), up2_ne (by omega), up2_eq]
    rfl
  · rw [up2_ne (by omega), up2_ne (by omega), up2_ne (by omega), up2_eq]
    rfl
  · rw [up2_ne (by omega), up2_ne (by omega), up2_eq]
    rfl
  · rw [up2_ne (by omega), up2_eq]
    rfl
  · rw [up2_eq]
    rfl
theorem m_fed {n : Nat} {F : Nat → Int32} (h9 : s 287 9 = Int32.ofNat n) (hn : n + 20 ≤ 400) (hF : ∀ k, k < 5 → s 294 k = F k) : ∃ s', p12_feed_L60 gF (ob g 287) 0 (mm g s l r) = some (Int32.ofNat (n + 20), mm g s' l r) ∧ (∀ k, k < 20 → s' 293 (n + k) = wvX (F (k / 4)) (k % 4)) ∧ (∀ j, j < n → s' 293 j = s 293 j) ∧ s' 287 9 = Int32.ofNat (n + 20) ∧ ∀ o k, o ≠ 293 → ¬ (o = 287 ∧ k = 9) → s' o k = s o k := by
  refine it_inv (L := fun m (a : tS) i => p12_feed_L60 m (ob g 287) i (mm g a l r)) (P := fun i a => (∀ k, k < i → a 293 (n + k) = wvX (F (k / 4)) (k % 4)) ∧ (∀ j, j < n → a 293 j = s 293 j) ∧ ∀ o, o ≠ 293 → a o = s o) (Q := fun B => ∃ s', B = some (Int32.ofNat (n + 20), mm g s' l r) ∧ (∀ k, k < 20 → s' 293 (n + k) = wvX (F (k / 4)) (k % 4)) ∧ (∀ j, j < n → s' 293 j = s 293 j) ∧ s' 287 9 = Int32.ofNat (n + 20) ∧ ∀ o k, o ≠ 293 → ¬ (o = 287 ∧ k = 9) → s' o k = s o k) (N := 20) (fun m i a hi hP => ?_) (fun m a hP => ?_) 20 gF 0 s (by omega) (gF_gt (by omega)) ⟨fun k hk => absurd hk (Nat.not_lt_zero k), fun j _ => rfl, fun o _ => rfl⟩
  · obtain ⟨h1, h2, h3⟩ := hP
    have c : (Int32.ofNat i < 20) = True := eq_true ((i_lt (b := 20) (by omega) (by decide)).mpr hi)
    obtain ⟨d1, d2⟩ := dm4 i hi
    have hq : i / 4 < 5 := by omega
    have a9 : a 287 9 = Int32.ofNat n := by rw [h3 287 (by decide), h9]
    have aF : a 294 (i / 4) = F (i / 4) := by rw [h3 294 (by decide), hF _ hq]
    left
    refine ⟨up2 a 293 (n + i) (wvX (F (i / 4)) (i % 4)), ⟨fun k hk => ?_, fun j hj => ?_, fun o ho => ?_⟩, ?_⟩
    · by_cases e : k = i
      · subst e
        exact up2_eq
      · rw [up2_ne (by omega)]
        exact h1 k (by omega)
    · rw [up2_ne (by omega)]
      exact h2 j hj
    · rw [← h3 o ho]
      exact funext fun k => up2_ne (by omega)
    · simp only [p12_feed_L60, c, if_true, w_R8, w_R15, w_getI, obs, divI_ne four_nz, remI_ne four_nz, d1, d2, f5_ald hq, a9, aF, i_add, t2_ast (show n + i < 400 by omega), i_succ]
      rfl
  · obtain ⟨h1, h2, h3⟩ := hP
    have c : ((Int32.ofNat 20 : Int32) < 20) = False := eq_false (by decide)
    have a9 : a 287 9 = Int32.ofNat n := by rw [h3 287 (by decide), h9]
    have e20 : Int32.ofNat n + 20 = Int32.ofNat (n + 20) := (Int32.ofNat_add n 20).symm
    refine ⟨up2 a 287 9 (Int32.ofNat (n + 20)), ?_, fun k hk => ?_, fun j hj => ?_, up2_eq, fun o k ho hk => ?_⟩
    · simp only [p12_feed_L60, c, if_false, w_getI, w_putI, obs, a9, e20, up2_eq]
    · rw [up2_ne (by omega)]
      exact h1 k hk
    · rw [up2_ne (by omega)]
      exact h2 j hj
    · rw [up2_ne hk, h3 o ho]
theorem op_feed {x1 x2 x3 x4 x5 : Int32} : Dir g (fun M => p11_feed (ob g 0) x1 x2 x3 x4 x5 M) (fun M => p12_feed (ob g 287) x1 x2 x3 x4 x5 M) := by
  intro s l r hI
  obtain ⟨C, G, L, n, p, hc, ht, hp, hk, hr⟩ := id hI
  obtain ⟨t1, t2, t3, t4⟩ := id ht
  have e20 : Int32.ofNat n + 20 = Int32.ofNat (n + 20) := (Int32.ofNat_add n 20).symm
  have c400 : ((400 : Int32) < Int32.ofNat (n + 20)) = (400 < n + 20) := propext (i_lt (a := 400) (by decide) (by omega))
  by_cases h : 400 < n + 20
  · have t3' : up2 s 287 0 0 287 9 = Int32.ofNat n := by rw [up2_ne (by omega)]; exact t3
    refine ⟨-1, s, r, up2 s 287 0 0, ?_, ?_, hI.rs rs_thr⟩
    · simp only [p11_feed, a_gd, a_I, t2, obs, e20, c400, h, if_true]
    · simp only [p12_feed, w_gd, w_putI, obs, w_getI, t3', e20, c400, h, if_true]
  · have n1 : ps4 s n x1 0 1 = Int32.ofNat (n + 4) := ps4_n
    have n2 : ps4 (ps4 s n x1) (n + 4) x2 0 1 = Int32.ofNat (n + 4 + 4) := ps4_n
    have n3 : ps4 (ps4 (ps4 s n x1) (n + 4) x2) (n + 4 + 4) x3 0 1 = Int32.ofNat (n + 4 + 4 + 4) := ps4_n
    have n4 : ps4 (ps4 (ps4 (ps4 s n x1) (n + 4) x2) (n + 4 + 4) x3) (n + 4 + 4 + 4) x4 0 1 = Int32.ofNat (n + 4 + 4 + 4 + 4) := ps4_n
    have n5 : ps4 (ps4 (ps4 (ps4 (ps4 s n x1) (n + 4) x2) (n + 4 + 4) x3) (n + 4 + 4 + 4) x4) (n + 4 + 4 + 4 + 4) x5 0 1 = Int32.ofNat (n + 20) := ps4_n
    obtain ⟨s3, e3, v3, j3, q3, o3⟩ := m_fed (g := g) (l := l) (r := r) (s := fed5 (ps20 s n x1 x2 x3 x4 x5) x1 x2 x3 x4 x5) (n := n) (F := fvX x1 x2 x3 x4 x5) (by rw [fed5_o (by decide) (by omega), ps20_o (by decide) (by omega)]; exact t3) (by omega) (fun k hk => fed5_v hk)
    refine ⟨Int32.ofNat (n + 20), ps20 s n x1 x2 x3 x4 x5, r, s3, ?_, ?_, ?_⟩
    · simp only [p11_feed, a_gd, a_I, t2, obs, e20, c400, h, if_false, put_4 t2 (show n + 4 ≤ 400 by omega), put_4 n1 (show n + 4 + 4 ≤ 400 by omega), put_4 n2 (show n + 4 + 4 + 4 ≤ 400 by omega), put_4 n3 (show n + 4 + 4 + 4 + 4 ≤ 400 by omega), put_4 n4 (show n + 4 + 4 + 4 + 4 + 4 ≤ 400 by omega), n5]
      rfl
    · have t3' : up2 (ps20 s n x1 x2 x3 x4 x5) 287 0 0 287 9 = Int32.ofNat n := by rw [up2_ne (by omega), ps20_o (by decide) (by omega)]; exact t3
      have a0 : ∀ {s : tS} {v : Int32}, astI (mm g s l r) (ob g 294) 0 v = some (mm g (up2 s 294 0 v) l r) := f5_ast (k := 0) (by decide)
      have a1 : ∀ {s : tS} {v : Int32}, astI (mm g s l r) (ob g 294) 1 v = some (mm g (up2 s 294 1 v) l r) := f5_ast (k := 1) (by decide)
      have a2 : ∀ {s : tS} {v : Int32}, astI (mm g s l r) (ob g 294) 2 v = some (mm g (up2 s 294 2 v) l r) := f5_ast (k := 2) (by decide)
      have a3 : ∀ {s : tS} {v : Int32}, astI (mm g s l r) (ob g 294) 3 v = some (mm g (up2 s 294 3 v) l r) := f5_ast (k := 3) (by decide)
      have a4 : ∀ {s : tS} {v : Int32}, astI (mm g s l r) (ob g 294) 4 v = some (mm g (up2 s 294 4 v) l r) := f5_ast (k := 4) (by decide)
      simp only [p12_feed, w_gd, w_putI, obs, w_getI, t3', e20, c400, h, if_false, w_R15, a0, a1, a2, a3, a4]
      exact e3
    · have A : ∀ o k, o ≠ 1 → o ≠ 293 → o ≠ 294 → ¬ (o = 0 ∧ k = 1) → ¬ (o = 287 ∧ k = 0) → ¬ (o = 287 ∧ k = 9) → s3 o k = s o k := fun o k a b c d e f => by rw [o3 o k b f, fed5_o c e, ps20_o a d]
      have Ao : ∀ o, o ≠ 0 → o ≠ 287 → o ≠ 1 → o ≠ 293 → o ≠ 294 → s3 o = s o := fun o a b c d e => funext fun k => A o k c d e (by omega) (by omega) (by omega)
      refine ⟨C, G, L, n + 20, p, ⟨hc.1.rs (fun o a b => Ao o (by omega) (by omega) (by omega) (by omega) (by omega)) (fun j _ => A 288 j (by omega) (by omega) (by omega) (by omega) (by omega) (by omega)), hc.2.rs (fun o a b => Ao o (by omega) (by omega) (by omega) (by omega) (by omega)) (fun j a b => A 288 j (by omega) (by omega) (by omega) (by omega) (by omega) (by omega))⟩, ⟨by omega, ?_, q3, fun j hj => ?_⟩, hp.fr (A 0 10 (by omega) (by omega) (by omega) (by omega) (by omega) (by omega)) (A 287 7 (by omega) (by omega) (by omega) (by omega) (by omega) (by omega)) (A 288 2 (by omega) (by omega) (by omega) (by omega) (by omega) (by omega)) (fun o ho => Ao o (by unfold inP at ho; omega) (by unfold inP at ho; omega) (by unfold inP at ho; omega) (by unfold inP at ho; omega) (by unfold inP at ho; omega)) (Ao 292 (by decide) (by decide) (by decide) (by decide) (by decide)), hk.fr (A 0 13 (by omega) (by omega) (by omega) (by omega) (by omega) (by omega)) (A 287 6 (by omega) (by omega) (by omega) (by omega) (by omega) (by omega)) (fun o a b => Ao o (by omega) (by omega) (by omega) (by omega) (by omega)) (Ao 289 (by decide) (by decide) (by decide) (by decide) (by decide)), hr.fr (Ao 18 (by decide) (by decide) (by decide) (by decide) (by decide)) (Ao 83 (by decide) (by decide) (by decide) (by decide) (by decide)) (Ao 98 (by decide) (by decide) (by decide) (by decide) (by decide)) (A 0 2 (by omega) (by omega) (by omega) (by omega) (by omega) (by omega)) (A 287 14 (by omega) (by omega) (by omega) (by omega) (by omega) (by omega)) (A 48 3 (by omega) (by omega) (by omega) (by omega) (by omega) (by omega)) (A 52 3 (by omega) (by omega) (by omega) (by omega) (by omega) (by omega))⟩
      · rw [o3 0 1 (by omega) (by omega), fed5_o (by omega) (by omega), ps20_n]
      · have s1 : s3 1 j = ps20 s n x1 x2 x3 x4 x5 1 j := by rw [o3 1 j (by omega) (by omega), fed5_o (by omega) (by omega)]
        rw [s1]
        by_cases c : j < n
        · rw [ps20_j c, j3 j c, fed5_o (by omega) (by omega), ps20_o (by omega) (by omega)]
          exact t4 j c
        · obtain ⟨k, rfl⟩ : ∃ k, j = n + k := ⟨j - n, by omega⟩
          rw [ps20_v (by omega), v3 k (by omega), byte_eq (Nat.mod_lt _ (by decide))]
          obtain ⟨u, h1, h2⟩ := byte_u (ushr (fvX x1 x2 x3 x4 x5 (k / 4)) (shV (k % 4)))
          exact ⟨u, h1, h2, by rw [h2]⟩
end
