section
variable {g : Nat} {s s' s0 : tS} {l : tL} {r : Nat → Nat} {n p b q e k N i kd : Nat} {u : Nat → Nat} {D D' : Dq} {M : mMem} {am : Int32}
/-! lines: kinds, amounts, begins, ends, how many -/
abbrev Lnq : Type := (Nat → Nat) × (Nat → Int32) × (Nat → Nat) × (Nat → Nat) × Nat
def lnK (I : Lnq) : Nat → Nat := I.1
def lnA (I : Lnq) : Nat → Int32 := I.2.1
def lnBq (I : Lnq) : Nat → Nat := I.2.2.1
def lnE (I : Lnq) : Nat → Nat := I.2.2.2.1
def lnC (I : Lnq) : Nat := I.2.2.2.2
def lnP (I : Lnq) (kd : Nat) (am : Int32) (bg en : Nat) : Lnq := (up1 (lnK I) (lnC I) kd, up1 (lnA I) (lnC I) am, up1 (lnBq I) (lnC I) bg, up1 (lnE I) (lnC I) en, lnC I + 1)
def LnC (s : tS) (I : Lnq) : Prop := s 39 9 = Int32.ofNat (lnC I) ∧ ∀ i, i < lnC I → s 40 i = Int32.ofNat (17 + lnK I i) ∧ s 41 i = lnA I i ∧ s 42 i = Int32.ofNat (lnBq I i) ∧ s 43 i = Int32.ofNat (lnE I i)
def LnM (s : tS) (I : Lnq) : Prop := ∀ i, i < lnC I → s 288 (1295 + 4 * i) = Int32.ofNat (lnK I i) ∧ s 288 (1295 + 4 * i + 1) = (if lnK I i = 2 then 1 else lnA I i) ∧ s 288 (1295 + 4 * i + 2) = Int32.ofNat (lnBq I i) ∧ s 288 (1295 + 4 * i + 3) = Int32.ofNat (lnE I i)
def VLn (I : Lnq) (D : Dq) : Prop := lnC I ≤ 12 ∧ ∀ i, i < lnC I → lnK I i ≤ 2 ∧ bw 0 60 (lnA I i) ∧ (lnK I i = 2 → lnA I i = 0) ∧ lnBq I i ≤ lnE I i ∧ lnE I i ≤ dqZ D ∧ tyOk (dqO D) (lnBq I i) (lnE I i)
def cNq (s s' : tS) : Prop := ∀ o j, ¬ (39 ≤ o ∧ o ≤ 45) → ¬ (o = 52 ∧ (j = 6 ∨ j = 7)) → s' o j = s o j
def mNq (s s' : tS) : Prop := ∀ o j, ¬ (o = 288 ∧ 1294 ≤ j) → ¬ (o = 287 ∧ (j = 10 ∨ j = 12 ∨ j = 13 ∨ j = 16)) → s' o j = s o j
theorem cNq.refl : cNq s s := fun _ _ _ _ => rfl
theorem cNq.trans {a b c : tS} (h : cNq a b) (h' : cNq b c) : cNq a c := fun o j x y => (h' o j x y).trans (h o j x y)
theorem cNq.up {o j : Nat} {v : Int32} (h : (39 ≤ o ∧ o ≤ 45) ∨ (o = 52 ∧ (j = 6 ∨ j = 7))) : cNq s (up2 s o j v) := fun o' j' x y => up2_ne (by omega)
theorem cNq.lq (h : cLq s s') : cNq s s' := fun o j x y => h o j (by omega) (by omega) y
theorem mNq.refl : mNq s s := fun _ _ _ _ => rfl
theorem mNq.trans {a b c : tS} (h : mNq a b) (h' : mNq b c) : mNq a c := fun o j x y => (h' o j x y).trans (h o j x y)
theorem mNq.up {o j : Nat} {v : Int32} (h : (o = 288 ∧ 1294 ≤ j) ∨ (o = 287 ∧ (j = 10 ∨ j = 12 ∨ j = 13 ∨ j = 16))) : mNq s (up2 s o j v) := fun o' j' x y => up2_ne (by omega)
theorem mNq.lq (h : mLq s s') : mNq s s' := fun o j x y => h o j (by omega) y
theorem RT.fn (h : RT s n u) (hf : mNq s s') : RT s' n u := ⟨by rw [hf 287 11 (by omega) (by omega)]; exact h.1, h.2.1, fun j hj => by rw [hf 293 j (by omega) (by omega)]; exact h.2.2 j hj⟩
theorem ATrL.fn (h : ATrL s n u N k) (hf : cNq s s') (h6 : s' 52 6 = Int32.ofNat e) (he : e ≤ N) : ATrL s' n u N e := h.fr (fun o j a b => hf o j (by omega) b) h6 he
theorem DqM.lo {j : Nat} {v : Int32} (h : DqM s D) (hj : j < 1343) : DqM (up2 s 288 j v) D := ⟨by rw [up2_ne (by omega)]; exact h.1, fun i hi => by rw [up2_ne (by omega), up2_ne (by omega)]; exact h.2 i hi⟩
theorem LnC.lq {I : Lnq} (h : LnC s I) (hf : cLq s s') : LnC s' I := by
  obtain ⟨h1, h2⟩ := h
  refine ⟨by rw [hf 39 9 (by omega) (by omega) (by omega)]; exact h1, fun i hi => ?_⟩
  rw [hf 40 i (by omega) (by omega) (by omega), hf 41 i (by omega) (by omega) (by omega), hf 42 i (by omega) (by omega) (by omega), hf 43 i (by omega) (by omega) (by omega)]
  exact h2 i hi
theorem tyOk_c {O O' : Nat → Nat} {b e : Nat} (h : tyOk O b e) (hO : ∀ j, j < e → O' j = O j) : tyOk O' b e := by
  rcases h with h | ⟨h', a, c⟩
  · exact Or.inl h
  · by_cases hbe : b ≤ e
    · refine Or.inr ⟨h', ?_, c⟩
      rw [tyR_c (O := O) _ _ _ (fun j x y => hO j (by omega))]
      exact a
    · rw [show e - b = 0 by omega] at a
      refine Or.inr ⟨h', ?_, c⟩
      rw [show e - b = 0 by omega]
      exact a
def dqX (D D' : Dq) : Prop := dqZ D ≤ dqZ D' ∧ ∀ j, j < dqZ D → dqO D' j = dqO D j ∧ dqV D' j = dqV D j
theorem dqX.of (h : tQq D D' true) : dqX D D' := by
  obtain ⟨h', a, -⟩ := h (fun _ => false, 0)
  exact ⟨a.1, a.2.1⟩
theorem VLn.put {I : Lnq} (h : VLn I D) (h12 : lnC I < 12) (hk : kd ≤ 2) (ha : bw 0 60 am) (h2 : kd = 2 → am = 0) (hX : dqX D D') (ht : tyOk (dqO D') (dqZ D) (dqZ D')) : VLn (lnP I kd am (dqZ D) (dqZ D')) D' := by
  refine ⟨by show lnC I + 1 ≤ 12; omega, fun i hi => ?_⟩
  have hi' : i < lnC I + 1 := hi
  show up1 (lnK I) (lnC I) kd i ≤ 2 ∧ bw 0 60 (up1 (lnA I) (lnC I) am i) ∧ (up1 (lnK I) (lnC I) kd i = 2 → up1 (lnA I) (lnC I) am i = 0) ∧ up1 (lnBq I) (lnC I) (dqZ D) i ≤ up1 (lnE I) (lnC I) (dqZ D') i ∧ up1 (lnE I) (lnC I) (dqZ D') i ≤ dqZ D' ∧ tyOk (dqO D') (up1 (lnBq I) (lnC I) (dqZ D) i) (up1 (lnE I) (lnC I) (dqZ D') i)
  by_cases c : i = lnC I
  · rw [c, up1_eq, up1_eq, up1_eq, up1_eq]
    exact ⟨hk, ha, h2, hX.1, Nat.le_refl _, ht⟩
  · rw [up1_ne c, up1_ne c, up1_ne c, up1_ne c]
    obtain ⟨a1, a2, a3, a4, a5, a6⟩ := h.2 i (by omega)
    exact ⟨a1, a2, a3, a4, Nat.le_trans a5 hX.1, tyOk_c a6 (fun j hj => (hX.2 j (by omega)).1)⟩
theorem lq_addL {I : Lnq} {bg : Nat} (h : LnC s I) (hD : DqC s D) (h12 : lnC I < 12) : ∃ s', p4_addLine (ob g 39) (Int32.ofNat (17 + kd)) am (Int32.ofNat bg) (mm g s l r) = some (mm g s' l r) ∧ cNq s s' ∧ LnC s' (lnP I kd am bg (dqZ D)) ∧ DqC s' D ∧ (∀ k, ATrL s n u N k → ATrL s' n u N k) := by
  obtain ⟨h9, hl⟩ := h
  have c0 : (Int32.ofNat (lnC I) < 0) = False := eq_false (i_nlt0 (by omega))
  have c12 : (Int32.ofNat (lnC I) < 12) = True := eq_true ((i_lt (b := 12) (by omega) (by decide)).mpr h12)
  have st1 : ∀ {s : tS} {v : Int32}, astI (mm g s l r) (ob g 40) (Int32.ofNat (lnC I)) v = some (mm g (up2 s 40 (lnC I) v) l r) := mm_astI (l_K m39 (k := 0) (by decide)) (lB_one m39).2.2.1 h12 (by decide)
  have st2 : ∀ {s : tS} {v : Int32}, astI (mm g s l r) (ob g 41) (Int32.ofNat (lnC I)) v = some (mm g (up2 s 41 (lnC I) v) l r) := mm_astI (l_K m39 (k := 1) (by decide)) (lB_one m39).2.2.2.1 h12 (by decide)
  have st3 : ∀ {s : tS} {v : Int32}, astI (mm g s l r) (ob g 42) (Int32.ofNat (lnC I)) v = some (mm g (up2 s 42 (lnC I) v) l r) := mm_astI (l_K m39 (k := 2) (by decide)) (lB_one m39).2.2.2.2.1 h12 (by decide)
  have st4 : ∀ {s : tS} {v : Int32}, astI (mm g s l r) (ob g 43) (Int32.ofNat (lnC I)) v = some (mm g (up2 s 43 (lnC I) v) l r) := mm_astI (l_K m39 (k := 3) (by decide)) (lB_one m39).2.2.2.2.2.1 h12 (by decide)
  have r0 : ∀ {s : tS}, getR (mm g s l r) (ob g 39) 5 0 = some (ob g 40) := l_R0 m39
  have r1 : ∀ {s : tS}, getR (mm g s l r) (ob g 39) 5 1 = some (ob g 41) := l_R1 m39
  have r2 : ∀ {s : tS}, getR (mm g s l r) (ob g 39) 5 2 = some (ob g 42) := l_R2 m39
  have r3 : ∀ {s : tS}, getR (mm g s l r) (ob g 39) 5 3 = some (ob g 43) := l_R3 m39
  have F : cNq s (up2 (up2 (up2 (up2 (up2 s 40 (lnC I) (Int32.ofNat (17 + kd))) 41 (lnC I) am) 42 (lnC I) (Int32.ofNat bg)) 43 (lnC I) (Int32.ofNat (dqZ D))) 39 9 (Int32.ofNat (lnC I + 1))) := ((((cNq.up (by omega)).trans (cNq.up (by omega))).trans (cNq.up (by omega))).trans (cNq.up (by omega))).trans (cNq.up (by omega))
  have e1 : up2 s 40 (lnC I) (Int32.ofNat (17 + kd)) 39 9 = Int32.ofNat (lnC I) := by rw [up2_ne (by omega)]; exact h9
  have e2 : up2 (up2 s 40 (lnC I) (Int32.ofNat (17 + kd))) 41 (lnC I) am 39 9 = Int32.ofNat (lnC I) := by rw [up2_ne (by omega)]; exact e1
  have e3 : up2 (up2 (up2 s 40 (lnC I) (Int32.ofNat (17 + kd))) 41 (lnC I) am) 42 (lnC I) (Int32.ofNat bg) 39 9 = Int32.ofNat (lnC I) := by rw [up2_ne (by omega)]; exact e2
  have e4 : up2 (up2 (up2 (up2 s 40 (lnC I) (Int32.ofNat (17 + kd))) 41 (lnC I) am) 42 (lnC I) (Int32.ofNat bg)) 43 (lnC I) (Int32.ofNat (dqZ D)) 39 9 = Int32.ofNat (lnC I) := by rw [up2_ne (by omega)]; exact e3
  have e8 : up2 (up2 (up2 s 40 (lnC I) (Int32.ofNat (17 + kd))) 41 (lnC I) am) 42 (lnC I) (Int32.ofNat bg) 39 8 = Int32.ofNat (dqZ D) := by rw [up2_ne (by omega), up2_ne (by omega), up2_ne (by omega)]; exact hD.1
  refine ⟨_, ?_, F, ⟨up2_eq, fun i hi => ?_⟩, ⟨by rw [up2_ne (by omega), up2_ne (by omega), up2_ne (by omega), up2_ne (by omega), up2_ne (by omega)]; exact hD.1, fun j hj => ?_⟩, fun k hA => hA.fn F (by rw [up2_ne (by omega), up2_ne (by omega), up2_ne (by omega), up2_ne (by omega), up2_ne (by omega)]; exact hA.2.2.1) hA.2.1⟩
  · simp only [p4_addLine, l_gd m39, l_I m39, h9, obs, c0, if_false, c12, if_true, r0, st1, e1, r1, st2, e2, r2, st3, e3, r3, e8, st4, e4, l_P m39, i_succ, p4_addLine_J69]
  · have hi' : i < lnC I + 1 := hi
    show _ = Int32.ofNat (17 + up1 (lnK I) (lnC I) kd i) ∧ _ = up1 (lnA I) (lnC I) am i ∧ _ = Int32.ofNat (up1 (lnBq I) (lnC I) bg i) ∧ _ = Int32.ofNat (up1 (lnE I) (lnC I) (dqZ D) i)
    by_cases c : i = lnC I
    · rw [c, up1_eq, up1_eq, up1_eq, up1_eq]
      refine ⟨?_, ?_, ?_, ?_⟩
      · rw [up2_ne (by omega), up2_ne (by omega), up2_ne (by omega), up2_ne (by omega), up2_eq]
      · rw [up2_ne (by omega), up2_ne (by omega), up2_ne (by omega), up2_eq]
      · rw [up2_ne (by omega), up2_ne (by omega), up2_eq]
      · rw [up2_ne (by omega), up2_eq]
    · rw [up1_ne c, up1_ne c, up1_ne c, up1_ne c]
      have ho : ∀ o, up2 (up2 (up2 (up2 (up2 s 40 (lnC I) (Int32.ofNat (17 + kd))) 41 (lnC I) am) 42 (lnC I) (Int32.ofNat bg)) 43 (lnC I) (Int32.ofNat (dqZ D))) 39 9 (Int32.ofNat (lnC I + 1)) o i = if o = 39 ∧ i = 9 then Int32.ofNat (lnC I + 1) else s o i := fun o => by
        by_cases d : o = 39 ∧ i = 9
        · rw [if_pos d, d.1, d.2, up2_eq]
        · rw [if_neg d, up2_ne d, up2_ne (by omega), up2_ne (by omega), up2_ne (by omega), up2_ne (by omega)]
      rw [ho 40, ho 41, ho 42, ho 43, if_neg (by omega), if_neg (by omega), if_neg (by omega), if_neg (by omega)]
      exact hl i (by omega)
  · have ho : ∀ o, (o = 44 ∨ o = 45) → up2 (up2 (up2 (up2 (up2 s 40 (lnC I) (Int32.ofNat (17 + kd))) 41 (lnC I) am) 42 (lnC I) (Int32.ofNat bg)) 43 (lnC I) (Int32.ofNat (dqZ D))) 39 9 (Int32.ofNat (lnC I + 1)) o j = s o j := fun o ho => by
      rw [up2_ne (by omega), up2_ne (by omega), up2_ne (by omega), up2_ne (by omega), up2_ne (by omega)]
    rw [ho 44 (Or.inl rfl), ho 45 (Or.inr rfl)]
    exact hD.2 j hj
/-! the end of a line: if, and what holds -/
def tlQ (g : Nat) (x2 : Int32) (M : mMem) : Option (Int32 × mMem) :=
  (getR M (ob g 287) 12 1).bind fun v_4 =>
  (getI M (ob g 287) 12 16).bind fun v_5 =>
  (astI M v_4 (x2 + 2) v_5).bind fun M_6 =>
  (putI M_6 (ob g 287) 12 13 0).bind fun M_7 =>
  (p12_passes (ob g 287) 17 M_7).bind fun q_8 =>
  if q_8.1 = 0 then
    p12_readLawLine_J146 (ob g 287) x2 q_8.2
  else
    (p12_readCond (ob g 287) q_8.2).bind fun q_9 =>
    if q_9.1 = 0 then
      some (0, q_9.2)
    else
      p12_readLawLine_J146 (ob g 287) x2 q_9.2
def mTq (i : Nat) (s s' : tS) : Prop := ∀ o j, ¬ (o = 288 ∧ (j = 1295 + 4 * i + 2 ∨ j = 1295 + 4 * i + 3 ∨ 1343 ≤ j)) → ¬ (o = 287 ∧ (j = 10 ∨ j = 12 ∨ j = 13 ∨ j = 16)) → s' o j = s o j
theorem mTq.trans {a b c : tS} (h : mTq i a b) (h' : mTq i b c) : mTq i a c := fun o j x y => (h' o j x y).trans (h o j x y)
theorem mTq.lq (h : mLq s s') : mTq i s s' := fun o j x y => h o j (by omega) y
theorem mTq.up {o j : Nat} {v : Int32} (h : (o = 288 ∧ (j = 1295 + 4 * i + 2 ∨ j = 1295 + 4 * i + 3 ∨ 1343 ≤ j)) ∨ (o = 287 ∧ (j = 10 ∨ j = 12 ∨ j = 13 ∨ j = 16))) : mTq i s (up2 s o j v) := fun o' j' x y => up2_ne (by omega)
theorem mTq.mn (h : mTq i s s') : mNq s s' := fun o j x y => h o j (by omega) y
theorem m_J146 (hi : i < 12) (hD : DqM s D) : p12_readLawLine_J146 (ob g 287) (Int32.ofNat (1295 + 4 * i)) (mm g (sc s p b) l r) = some (1, mm g (sc (up2 s 288 (1295 + 4 * i + 3) (Int32.ofNat (dqZ D))) p b) l r) := by
  have a1 : sc s p b 287 16 = Int32.ofNat (dqZ D) := by rw [sc_o (by omega)]; exact hD.1
  simp only [p12_readLawLine_J146, w_R1, obs, w_getI, a1, i_add3, w_ast (show 1295 + 4 * i + 3 < 2143 by omega)]
  rw [sc_up (by omega)]
theorem jq_tail {I : Lnq} (hN : PNq n u N) (hk : k ≤ N) (hz : dqZ D + 1 ≤ k) (h12 : lnC I < 12) (hi : i < 12) : ∃ ok D' k', (∀ (s : tS) (l : tL) (r : Nat → Nat), LnC s I → DqC s D → ATrL s n u N k → ∃ s', p5_readLine_J67 (ob g 52) (Int32.ofNat (17 + kd)) am (mm g s l r) = some (ib ok, mm g s' l r) ∧ cNq s s' ∧ ATrL s' n u N k' ∧ (ok = true → LnC s' (lnP I kd am (dqZ D) (dqZ D')) ∧ DqC s' D')) ∧ (∀ (s : tS) (l : tL) (r : Nat → Nat) p b, DqM s D → RT s n u → p ≤ n → sk u n p = tk u n k → ∃ s' p' b', tlQ g (Int32.ofNat (1295 + 4 * i)) (mm g (sc s p b) l r) = some (ib ok, mm g (sc s' p' b') l r) ∧ mTq i s s' ∧ p' ≤ n ∧ (ok = true → DqM s' D' ∧ s' 288 (1295 + 4 * i + 2) = Int32.ofNat (dqZ D) ∧ s' 288 (1295 + 4 * i + 3) = Int32.ofNat (dqZ D') ∧ sk u n p' = tk u n k') ∧ (ok = false → b' = tk u n k')) ∧ (ok = true → dqX D D' ∧ tyOk (dqO D') (dqZ D) (dqZ D') ∧ k' ≤ N ∧ dqZ D' + 1 ≤ k') := by
  have a16 : ∀ {s : tS} {p b : Nat}, DqM s D → sc s p b 287 16 = Int32.ofNat (dqZ D) := fun h => by rw [sc_o (by omega)]; exact h.1
  -- what the reference has done ahead of the word
  have pre : ∀ (s : tS) (l : tL) (r : Nat → Nat) p b, DqM s D → RT s n u → tlQ g (Int32.ofNat (1295 + 4 * i)) (mm g (sc s p b) l r) = ((p12_passes (ob g 287) 17 (mm g (sc (up2 (up2 s 288 (1295 + 4 * i + 2) (Int32.ofNat (dqZ D))) 287 13 0) p b) l r)).bind fun q_8 => if q_8.1 = 0 then p12_readLawLine_J146 (ob g 287) (Int32.ofNat (1295 + 4 * i)) q_8.2 else (p12_readCond (ob g 287) q_8.2).bind fun q_9 => if q_9.1 = 0 then some (0, q_9.2) else p12_readLawLine_J146 (ob g 287) (Int32.ofNat (1295 + 4 * i)) q_9.2) ∧ DqM (up2 (up2 s 288 (1295 + 4 * i + 2) (Int32.ofNat (dqZ D))) 287 13 0) D ∧ RT (up2 (up2 s 288 (1295 + 4 * i + 2) (Int32.ofNat (dqZ D))) 287 13 0) n u ∧ mTq i s (up2 (up2 s 288 (1295 + 4 * i + 2) (Int32.ofNat (dqZ D))) 287 13 0) ∧ up2 (up2 s 288 (1295 + 4 * i + 2) (Int32.ofNat (dqZ D))) 287 13 0 288 (1295 + 4 * i + 2) = Int32.ofNat (dqZ D) := fun s l r p b hD hR => by
    have F : mTq i s (up2 (up2 s 288 (1295 + 4 * i + 2) (Int32.ofNat (dqZ D))) 287 13 0) := (mTq.up (by omega)).trans (mTq.up (by omega))
    refine ⟨?_, (hD.lo (by omega)).up (by decide), hR.fn F.mn, F, by rw [up2_ne (by omega), up2_eq]⟩
    simp only [tlQ, w_R1, obs, w_getI, a16 hD, i_add2, w_ast (show 1295 + 4 * i + 2 < 2143 by omega), w_putI, sc_up (show ¬ (288 = 287 ∧ (1295 + 4 * i + 2 = 10 ∨ 1295 + 4 * i + 2 = 12)) by omega), sc_up (show ¬ (287 = 287 ∧ (13 = 10 ∨ 13 = 12)) by omega)]
  by_cases c : th u n (tk u n k) = 20
  · obtain ⟨hkN, hlt⟩ := pn_lt hN hk c (by decide)
    obtain ⟨-, -, ks⟩ := wd_t (w := 17) (by decide) c
    obtain ⟨ok, D1, k1, hc, hm, ht⟩ := jq_cond (g := g) (k := k + 1) (D := D) hN (by omega) (by omega)
    have cls : ∀ (s : tS) (l : tL) (r : Nat → Nat), DqC s D → ATrL s n u N k → p5_took (ob g 52) 20 (mm g s l r) = some (1, mm g (up2 s 52 6 (Int32.ofNat (k + 1))) l r) ∧ ∃ s2, p5_readAny (ob g 52) 0 (mm g (up2 s 52 6 (Int32.ofNat (k + 1))) l r) = some (ib ok, mm g s2 l r) ∧ cLq s s2 ∧ ATrL s2 n u N k1 ∧ (ok = true → DqC s2 D1) := fun s l r hD hA => by
      obtain ⟨s2, e2, F2, A2, D2⟩ := hc _ l r (hD.up (o := 52) (j := 6) (v := Int32.ofNat (k + 1)) (by decide)) (hA.go hkN)
      exact ⟨rL_took_t hA (c := 20) c, s2, e2, (cLq.up (by omega)).trans F2, A2, D2⟩
    cases ok with
    | false =>
      refine ⟨false, D, k1, fun s l r hI hD hA => ?_, fun s l r p b hD hR hp hs => ?_, fun h => (by cases h)⟩
      · obtain ⟨et, s2, e2, F2, A2, -⟩ := cls s l r hD hA
        refine ⟨s2, ?_, cNq.lq F2, A2, fun h => (by cases h)⟩
        simp only [p5_readLine_J67, lq_R8, obs, l_I m39, et, one_z, if_false, e2, ib_f, if_true]
      · obtain ⟨ep, D0, R0, F0, v0⟩ := pre s l r p b hD hR
        have e := (m_pass_t (g := g) (l := l) (r := r) (b := b) R0 hp hs (w := 17) (by decide) c).2.2
        obtain ⟨s4, p4, b4, e4, F4, hp4, -, q4⟩ := hm (eL u n (tk u n k)) (tk u n k) (rU_le (tk_le k)) ks _ l r D0 R0 up2_eq
        refine ⟨s4, p4, b4, ?_, F0.trans (mTq.lq F4), hp4, fun h => (by cases h), q4⟩
        rw [ep]
        simp only [e, obs, one_z, if_false, e4, ib_f, if_true]
    | true =>
      obtain ⟨t1, t2, t3, t4⟩ := ht rfl
      obtain ⟨tz, to⟩ := tq_ok t1 (O := dqO D1) (fun j _ => rfl)
      refine ⟨true, D1, k1, fun s l r hI hD hA => ?_, fun s l r p b hD hR hp hs => ?_, fun _ => ⟨dqX.of t1, to, t3, by omega⟩⟩
      · obtain ⟨et, s2, e2, F2, A2, D2⟩ := cls s l r hD hA
        obtain ⟨s3, e3, F3, I3, D3, A3⟩ := lq_addL (g := g) (l := l) (r := r) (n := n) (u := u) (N := N) (kd := kd) (am := am) (bg := dqZ D) (hI.lq F2) (D2 rfl) h12
        refine ⟨s3, ?_, (cNq.lq F2).trans F3, A3 _ A2, fun _ => ⟨I3, D3⟩⟩
        simp only [p5_readLine_J67, lq_R8, obs, l_I m39, hD.1, et, one_z, if_false, e2, ib_t, p5_readLine_J95, e3]
      · obtain ⟨ep, D0, R0, F0, v0⟩ := pre s l r p b hD hR
        have e := (m_pass_t (g := g) (l := l) (r := r) (b := b) R0 hp hs (w := 17) (by decide) c).2.2
        obtain ⟨s4, p4, b4, e4, F4, hp4, q4, -⟩ := hm (eL u n (tk u n k)) (tk u n k) (rU_le (tk_le k)) ks _ l r D0 R0 up2_eq
        obtain ⟨D4, -, k4⟩ := q4 rfl
        refine ⟨_, p4, b4, ?_, (F0.trans (mTq.lq F4)).trans (mTq.up (o := 288) (j := 1295 + 4 * i + 3) (v := Int32.ofNat (dqZ D1)) (by omega)), hp4, fun _ => ⟨D4.lo (by omega), ?_, up2_eq, k4⟩, fun h => (by cases h)⟩
        · rw [ep]
          simp only [e, obs, one_z, if_false, e4, ib_t, m_J146 hi D4]
        · rw [up2_ne (by omega), F4 288 _ (by omega) (by omega)]
          exact v0
  · refine ⟨true, D, k, fun s l r hI hD hA => ?_, fun s l r p b hD hR hp hs => ?_, fun _ => ⟨⟨Nat.le_refl _, fun j _ => ⟨rfl, rfl⟩⟩, Or.inl rfl, hk, hz⟩⟩
    · have et : p5_took (ob g 52) 20 (mm g s l r) = _ := rL_took_f hA (c := 20) (by decide) c
      obtain ⟨s3, e3, F3, I3, D3, A3⟩ := lq_addL (g := g) (l := l) (r := r) (n := n) (u := u) (N := N) (kd := kd) (am := am) (bg := dqZ D) hI hD h12
      refine ⟨s3, ?_, F3, A3 _ hA, fun _ => ⟨I3, D3⟩⟩
      simp only [p5_readLine_J67, lq_R8, obs, l_I m39, hD.1, et, if_true, p5_readLine_J95, e3, ib_t]
    · obtain ⟨ep, D0, R0, F0, v0⟩ := pre s l r p b hD hR
      have e := m_pass_f (g := g) (l := l) (r := r) (b := b) R0 hp hs (w := 17) (by decide) c
      refine ⟨_, tk u n k, tk u n k, ?_, F0.trans (mTq.up (o := 288) (j := 1295 + 4 * i + 3) (v := Int32.ofNat (dqZ D)) (by omega)), tk_le k, fun _ => ⟨D0.lo (by omega), ?_, up2_eq, sk_tk k⟩, fun h => (by cases h)⟩
      · rw [ep]
        simp only [e, obs, if_true, m_J146 hi D0, ib_t]
      · rw [up2_ne (by omega)]
        exact v0
end
