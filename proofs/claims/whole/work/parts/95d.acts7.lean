theorem k289 : lK 289 = 20 := by decide +kernel
theorem n289 : lNn 289 = 1294 := by decide +kernel
section
variable {g : Nat} {s s' : tS} {l : tL} {r : Nat → Nat} {C : Co} {G : Lg} {L : Lw}
theorem w_R2 : getR (mm g s l r) (ob g 287) 12 2 = some (ob g 289) := mm_getR k287 (by decide +kernel) (by decide)
theorem i_ald {k : Nat} (hk : k < 1294) : aldI (mm g s l r) (ob g 289) 20 (Int32.ofNat k) = some (s 289 k) := mm_aldI k289 n289 hk (by decide)
theorem i_ast {k : Nat} {v : Int32} (hk : k < 1294) : astI (mm g s l r) (ob g 289) (Int32.ofNat k) v = some (mm g (up2 s 289 k v) l r) := mm_astI k289 n289 hk (by decide)
theorem Past.zero (h : Past s r 0 ∨ ∃ p, Past s r p) (a : s' 0 10 = 0) (b : s' 287 7 = 0) (d : ∀ o, inP o → s' o = s o) : Past s' r 0 := by
  have h4 : (∀ j, j < 12 → r j ∈ pBL ∧ Nob s (r j)) ∧ ∀ i j, i < 12 → j < 12 → r i = r j → i = j := by
    rcases h with h | ⟨p, h⟩
    · exact ⟨h.2.2.2.1, h.2.2.2.2.1⟩
    · exact ⟨h.2.2.2.1, h.2.2.2.2.1⟩
  refine ⟨by omega, a, b, fun j hj => ⟨(h4.1 j hj).1, (h4.1 j hj).2.rs ?_⟩, h4.2, fun j hj => absurd hj (Nat.not_lt_zero j)⟩
  have := (pBL_f _ (h4.1 j hj).1).2
  exact d _ (by unfold inP; omega)
/-! IMAGE, BACK -/
theorem op_image : ∀ (s : tS) (l : tL) (r : Nat → Nat), INV s r → ∃ s1 s2, p11_image (ob g 0) (mm g s l r) = some (mm g s1 l r) ∧ p12_image (ob g 287) (mm g s1 l r) = some (mm g s2 l r) ∧ INV s2 r := by
  intro s l r hI
  obtain ⟨C, G, L, n, p, hc, ht, hp, hk, hr⟩ := id hI
  obtain ⟨s1, e1, I1, g1, f1⟩ := c_take (g := g) (l := l) (r := r) (d := 57) (c := 2) (by decide) (by decide) hc.1.1 hc.1.2.1 hk.1
  have L1 : LIs s1 30 L := hc.2.1.fr f1 (fun o ho => by omega)
  obtain ⟨s2, e2, L2, f2⟩ := c_ltake (g := g) (s := s1) (l := l) (r := r) m71 m30 (by decide) L1 hc.2.2.2
  obtain ⟨m, hm⟩ := cp_all (g := g) (l := l) (r := r) (s := up2 (up2 s2 0 13 1) 287 0 0) (d := 289) (od := 0) (c := 288) (oc := 0) (Or.inl (by decide)) (fun n i M => p12_image_L7 n (ob g 287) i M) 1294 (by decide) (fun n i s hi => by
    have c : Int32.ofNat i < 1294 := (i_lt (b := 1294) (by omega) (by decide)).mpr hi
    simp only [p12_image_L7, c, if_true, w_R2, w_R1, obs, w_ald (show i < 2143 by omega), i_ast hi, i_succ, Nat.zero_add])
  have hm' : p12_image_L7 gF (ob g 287) 0 (mm g (up2 (up2 s2 0 13 1) 287 0 0) l r) = p12_image_L7 (m + 1) (ob g 287) (Int32.ofNat 1294) (mm g (cpS (up2 (up2 s2 0 13 1) 287 0 0) 289 0 288 0 1294) l r) := hm
  have c : ¬ Int32.ofNat 1294 < 1294 := by decide
  refine ⟨up2 s2 0 13 1, up2 (cpS (up2 (up2 s2 0 13 1) 287 0 0) 289 0 288 0 1294) 287 6 1, ?_, ?_, ?_⟩
  · simp only [p11_image, a_gd, a_R11, a_R3, obs, e1, a_R12, a_R5, e2, a_P]
  · simp only [p12_image, w_gd, w_putI, obs, hm']
    rw [p12_image_L7, if_neg c, w_putI, obs]
  · have U : ∀ o, o ≠ 0 → o ≠ 287 → o ≠ 289 → up2 (cpS (up2 (up2 s2 0 13 1) 287 0 0) 289 0 288 0 1294) 287 6 1 o = s2 o := fun o a b c => funext fun j => by
      rw [up2_ne (by omega), cpS_ne c, up2_ne (by omega), up2_ne (by omega)]
    have A : ∀ o, o ≠ 0 → o ≠ 287 → o ≠ 289 → ¬ (57 ≤ o ∧ o < 78) → up2 (cpS (up2 (up2 s2 0 13 1) 287 0 0) 289 0 288 0 1294) 287 6 1 o = s o := fun o a b c d => by
      rw [U o a b c, f2 o (by omega), f1 o (by omega)]
    have Z : ∀ k, k ≠ 13 → up2 (cpS (up2 (up2 s2 0 13 1) 287 0 0) 289 0 288 0 1294) 287 6 1 0 k = s 0 k := fun k hk => by
      rw [up2_ne (by omega), cpS_ne (by decide), up2_ne (by omega), up2_ne (by omega), f2 0 (by omega), f1 0 (by omega)]
    have V : ∀ k, k ≠ 6 → k ≠ 0 → up2 (cpS (up2 (up2 s2 0 13 1) 287 0 0) 289 0 288 0 1294) 287 6 1 287 k = s 287 k := fun k a b => by
      rw [up2_ne (by omega), cpS_ne (by decide), up2_ne (by omega), up2_ne (by omega), f2 287 (by omega), f1 287 (by omega)]
    have W : ∀ k, k < 1294 → up2 (cpS (up2 (up2 s2 0 13 1) 287 0 0) 289 0 288 0 1294) 287 6 1 289 k = s 288 k := fun k hk => by
      rw [up2_ne (by omega), cpS_v, if_pos (by omega), up2_ne (by omega), up2_ne (by omega), f2 288 (by omega), f1 288 (by omega)]
      congr 1
      omega
    have I2 : Is s2 57 C := I1.fr f2 (fun o ho => by omega)
    have g2 : LgC s2 57 G := g1.fr f2 (by omega) (by omega)
    have fU : Fr (fun o => o = 0 ∨ o = 287 ∨ o = 289) s2 (up2 (cpS (up2 (up2 s2 0 13 1) 287 0 0) 289 0 288 0 1294) 287 6 1) := fun o ho => U o (by omega) (by omega) (by omega)
    refine ⟨C, G, L, n, p, ⟨hc.1.rs (fun o a b => A o (by omega) (by omega) (by omega) (by omega)) (fun j _ => by rw [A 288 (by decide) (by decide) (by decide) (by omega)]), hc.2.rs (fun o a b => A o (by omega) (by omega) (by omega) (by omega)) (fun j a b => by rw [A 288 (by decide) (by decide) (by decide) (by omega)])⟩, ht.fr (Z 1 (by decide)) (V 9 (by decide) (by decide)) (A 1 (by decide) (by decide) (by decide) (by omega)) (A 293 (by decide) (by decide) (by decide) (by omega)), hp.fr (Z 10 (by decide)) (V 7 (by decide) (by decide)) (by rw [A 288 (by decide) (by decide) (by decide) (by omega)]) (fun o ho => A o (by unfold inP at ho; omega) (by unfold inP at ho; omega) (by unfold inP at ho; omega) (by unfold inP at ho; omega)) (A 292 (by decide) (by decide) (by decide) (by omega)), ⟨?_, true, ?_, up2_eq, fun _ => ⟨C, G, L, ⟨I2.fr fU (fun o ho => by omega), g2.fr fU (by omega) (by omega), hc.1.2.2.1.cells (fun j hj => W j (by omega)), hc.1.2.2.2.1.cells (fun j hj => W j (by omega)), hc.1.2.2.2.2.1, hc.1.2.2.2.2.2⟩, ⟨L2.fr fU (fun o ho => by omega), hc.2.2.1.cells hc.2.2.2 (fun j a b => W j a), hc.2.2.2⟩⟩⟩, hr.fr (A 18 (by decide) (by decide) (by decide) (by omega)) (A 83 (by decide) (by decide) (by decide) (by omega)) (A 98 (by decide) (by decide) (by decide) (by omega)) (Z 2 (by decide)) (V 14 (by decide) (by decide)) (congrFun (A 48 (by decide) (by decide) (by decide) (by omega)) 3) (congrFun (A 52 (by decide) (by decide) (by decide) (by omega)) 3)⟩
    · intro j hj
      rw [U 59 (by decide) (by decide) (by decide)]
      exact I2.2.2.2.2.2.2 j hj
    · rw [up2_ne (by omega), cpS_ne (by decide), up2_ne (by omega), up2_eq]
      rfl
theorem op_back : Dir g (fun M => p11_back (ob g 0) M) (fun M => p12_back (ob g 287) M) := by
  intro s l r hI
  obtain ⟨C, G, L, n, p, hc, ht, hp, hk, hr⟩ := id hI
  obtain ⟨k1, kb, k2, k3, k4⟩ := id hk
  have k3' : up2 s 287 0 0 287 6 = ib kb := by rw [up2_ne (by omega)]; exact k3
  cases kb with
  | false =>
    refine ⟨0, s, r, up2 s 287 0 0, ?_, ?_, hI.rs rs_thr⟩
    · simp only [p11_back, a_gd, a_I, k2, obs, ib_f, if_true]
    · simp only [p12_back, w_gd, w_putI, w_getI, obs, k3', ib_f, if_true]
  | true =>
    obtain ⟨C1, G1, L1, ⟨F1, F2, F3, F4, F5, F6⟩, ⟨q1, q2, q3⟩⟩ := k4 rfl
    obtain ⟨s1, e1, I1, g1, f1⟩ := c_take (g := g) (l := l) (r := r) (d := 2) (c := 57) (by decide) (by decide) F1 F2 hc.1.1.2.2.2.2.2.2
    have L1' : LIs s1 71 L1 := q1.fr f1 (fun o ho => by omega)
    obtain ⟨s2, e2, L2, f2⟩ := c_ltake (g := g) (s := s1) (l := l) (r := r) m30 m71 (by decide) L1' q3
    have k3'' : up2 (up2 s2 0 10 0) 287 0 0 287 6 = 1 := by
      rw [up2_ne (by omega), up2_ne (by omega), f2 287 (by omega), f1 287 (by omega)]
      exact k3
    obtain ⟨m, hm⟩ := cp_all (g := g) (l := l) (r := r) (s := up2 (up2 s2 0 10 0) 287 0 0) (d := 288) (od := 0) (c := 289) (oc := 0) (Or.inl (by decide)) (fun n i M => p12_back_L16 n (ob g 287) i M) 1294 (by decide) (fun n i s hi => by
      have c : Int32.ofNat i < 1294 := (i_lt (b := 1294) (by omega) (by decide)).mpr hi
      simp only [p12_back_L16, c, if_true, w_R2, w_R1, obs, w_ast (show i < 2143 by omega), i_ald hi, i_succ, Nat.zero_add])
    have hm' : p12_back_L16 gF (ob g 287) 0 (mm g (up2 (up2 s2 0 10 0) 287 0 0) l r) = p12_back_L16 (m + 1) (ob g 287) (Int32.ofNat 1294) (mm g (cpS (up2 (up2 s2 0 10 0) 287 0 0) 288 0 289 0 1294) l r) := hm
    have c : ¬ Int32.ofNat 1294 < 1294 := by decide
    refine ⟨1, up2 s2 0 10 0, r, up2 (cpS (up2 (up2 s2 0 10 0) 287 0 0) 288 0 289 0 1294) 287 7 0, ?_, ?_, ?_⟩
    · simp only [p11_back, a_gd, a_I, k2, obs, ib_t, one_z, if_false, a_R3, a_R11, e1, a_R5, a_R12, e2, a_P]
    · simp only [p12_back, w_gd, w_putI, w_getI, obs, k3'', one_z, if_false, hm']
      rw [p12_back_L16, if_neg c, w_putI, obs]
    · have U : ∀ o, o ≠ 0 → o ≠ 287 → o ≠ 288 → up2 (cpS (up2 (up2 s2 0 10 0) 287 0 0) 288 0 289 0 1294) 287 7 0 o = s2 o := fun o a b c => funext fun j => by
        rw [up2_ne (by omega), cpS_ne c, up2_ne (by omega), up2_ne (by omega)]
      have A : ∀ o, o ≠ 0 → o ≠ 287 → o ≠ 288 → ¬ (2 ≤ o ∧ o < 16) → ¬ (30 ≤ o ∧ o < 37) → up2 (cpS (up2 (up2 s2 0 10 0) 287 0 0) 288 0 289 0 1294) 287 7 0 o = s o := fun o a b c d e => by
        rw [U o a b c, f2 o (by omega), f1 o (by omega)]
      have Z : ∀ k, k ≠ 10 → up2 (cpS (up2 (up2 s2 0 10 0) 287 0 0) 288 0 289 0 1294) 287 7 0 0 k = s 0 k := fun k hk => by
        rw [up2_ne (by omega), cpS_ne (by decide), up2_ne (by omega), up2_ne (by omega), f2 0 (by omega), f1 0 (by omega)]
      have V : ∀ k, k ≠ 7 → k ≠ 0 → up2 (cpS (up2 (up2 s2 0 10 0) 287 0 0) 288 0 289 0 1294) 287 7 0 287 k = s 287 k := fun k a b => by
        rw [up2_ne (by omega), cpS_ne (by decide), up2_ne (by omega), up2_ne (by omega), f2 287 (by omega), f1 287 (by omega)]
      have W : ∀ k, k < 1294 → up2 (cpS (up2 (up2 s2 0 10 0) 287 0 0) 288 0 289 0 1294) 287 7 0 288 k = s 289 k := fun k hk => by
        rw [up2_ne (by omega), cpS_v, if_pos (by omega), up2_ne (by omega), up2_ne (by omega), f2 289 (by omega), f1 289 (by omega)]
        congr 1
        omega
      have I2 : Is s2 2 C1 := I1.fr f2 (fun o ho => by omega)
      have g2 : LgC s2 2 G1 := g1.fr f2 (by omega) (by omega)
      have fU : Fr (fun o => o = 0 ∨ o = 287 ∨ o = 288) s2 (up2 (cpS (up2 (up2 s2 0 10 0) 287 0 0) 288 0 289 0 1294) 287 7 0) := fun o ho => U o (by omega) (by omega) (by omega)
      refine ⟨C1, G1, L1, n, 0, ⟨⟨I2.fr fU (fun o ho => by omega), g2.fr fU (by omega) (by omega), F3.cells (fun j hj => W j (by omega)), F4.cells (fun j hj => W j (by omega)), F5, F6⟩, ⟨L2.fr fU (fun o ho => by omega), q2.cells q3 (fun j a b => W j a), q3⟩⟩, ht.fr (Z 1 (by decide)) (V 9 (by decide) (by decide)) (A 1 (by decide) (by decide) (by decide) (by omega) (by omega)) (A 293 (by decide) (by decide) (by decide) (by omega) (by omega)), Past.zero (Or.inr ⟨p, hp⟩) (by rw [up2_ne (by omega), cpS_ne (by decide), up2_ne (by omega), up2_eq]) up2_eq (fun o ho => A o (by unfold inP at ho; omega) (by unfold inP at ho; omega) (by unfold inP at ho; omega) (by unfold inP at ho; omega) (by unfold inP at ho; omega)), hk.fr (Z 13 (by decide)) (V 6 (by decide) (by decide)) (fun o a b => A o (by omega) (by omega) (by omega) (by omega) (by omega)) (A 289 (by decide) (by decide) (by decide) (by omega) (by omega)), hr.fr (A 18 (by decide) (by decide) (by decide) (by omega) (by omega)) (A 83 (by decide) (by decide) (by decide) (by omega) (by omega)) (A 98 (by decide) (by decide) (by decide) (by omega) (by omega)) (Z 2 (by decide)) (V 14 (by decide) (by decide)) (congrFun (A 48 (by decide) (by decide) (by decide) (by omega) (by omega)) 3) (congrFun (A 52 (by decide) (by decide) (by decide) (by omega) (by omega)) 3)⟩
/-! the start -/
def C00 : Co := (fun k => if k = 4 then 90 else if k = 5 then 5 else if k = 6 then 1 else if k = 8 then 1 else 0, fun _ _ => 0)
def G00 : Lg := (0, fun _ _ => 0)
def L00 : Lw := (fun _ => 0, fun _ => 0, fun _ => 0, fun _ => 0, fun _ => 0, fun _ => 0, 0, false)
theorem z00 : Zc C00 := ⟨rfl, by decide⟩
theorem s0_g : ∀ k, k < 11 → 4 ≤ k → s0 2 k = C00.1 (gIx k) := by decide +kernel
theorem s0_3 : ∀ k, k < 64 → s0 5 k = 0 := by decide +kernel
theorem s0_n : ∀ b ∈ fBL, ∀ j, j < 9 → s0 (b + 2) j = nob j := by decide +kernel
theorem s0_w : ∀ k, k < 9 → k ≠ 2 → k ≠ 7 → s0 288 k = C00.1 k := by decide +kernel
theorem r0_p : ∀ j, j < 12 → r0 j ∈ pBL := by decide +kernel
theorem INV_0 : INV s0 r0 := by
  have hsz : sz C00 = 0 := rfl
  refine ⟨C00, G00, L00, 0, 0, ⟨⟨⟨by decide, z00, fun k a b => s0_g k (by omega) a, fun i j hi => by rw [hsz] at hi; omega, fun i j hi => by rw [hsz] at hi; omega, fun i j _ hi hj => s0_3 _ (by omega), s0_n 2 (by decide)⟩, ⟨by decide +kernel, by decide, 0, by decide, by decide +kernel, fun k j hk => absurd hk (Nat.not_lt_zero k)⟩, ⟨z00, s0_w, fun i j hi => by rw [hsz] at hi; omega⟩, ⟨by decide +kernel, by decide, fun k j hk => absurd hk (Nat.not_lt_zero k)⟩, ⟨z00, ⟨by decide, by decide⟩, ⟨by decide, by decide⟩, ⟨by decide, by decide⟩, ⟨by decide, by decide⟩, ⟨by decide, by decide⟩, fun i hi => by rw [hsz] at hi; omega⟩, fun k hk => absurd hk (Nat.not_lt_zero k)⟩, ⟨⟨by decide +kernel, fun i hi => absurd hi (Nat.not_lt_zero i)⟩, ⟨by decide +kernel, fun h => (by cases h), fun i hi => absurd hi (Nat.not_lt_zero i)⟩, ⟨by decide, fun _ => rfl, fun i hi => absurd hi (Nat.not_lt_zero i)⟩⟩⟩, ⟨by decide, by decide +kernel, by decide +kernel, fun j hj => absurd hj (Nat.not_lt_zero j)⟩, ⟨by decide, by decide +kernel, by decide +kernel, fun j hj => ⟨r0_p j hj, s0_n _ (pBL_f _ (r0_p j hj)).1⟩, fun i j hi hj e => by unfold r0 at e; omega, fun j hj => absurd hj (Nat.not_lt_zero j)⟩, ⟨s0_n 57 (by decide), false, by decide +kernel, by decide +kernel, fun h => by cases h⟩, ⟨s0_n 16 (by decide), s0_n 81 (by decide), s0_n 96 (by decide), by decide +kernel, by decide +kernel, by decide +kernel⟩⟩
end
