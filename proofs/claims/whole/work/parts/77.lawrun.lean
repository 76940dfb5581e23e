/-! the class's law at work -/
theorem law_lay : [30, 39, 71].all (fun b => decide (lK b = 5) && (List.range 8).all (fun k => decide (lR b k = b + 2 + k) && decide (lK (b + 1 + k) = 20)) && decide (lNn (b + 1) = 12) && decide (lNn (b + 2) = 12) && decide (lNn (b + 3) = 12) && decide (lNn (b + 4) = 12) && decide (lNn (b + 5) = 400) && decide (lNn (b + 6) = 400) && decide (lNn (b + 7) = 30) && decide (lNn (b + 8) = 400) && decide (b + 8 < 288 ∧ (b + 8 < 56 ∨ 56 < b))) = true := by decide +kernel
def lBL : List Nat := [30, 39, 71]
theorem lB_one {b : Nat} (hb : b ∈ lBL) : lK b = 5 ∧ (∀ k, k < 8 → lR b k = b + 2 + k ∧ lK (b + 1 + k) = 20) ∧ lNn (b + 1) = 12 ∧ lNn (b + 2) = 12 ∧ lNn (b + 3) = 12 ∧ lNn (b + 4) = 12 ∧ lNn (b + 5) = 400 ∧ lNn (b + 6) = 400 ∧ lNn (b + 7) = 30 ∧ lNn (b + 8) = 400 ∧ (b + 8 < 288 ∧ (b + 8 < 56 ∨ 56 < b)) := by
  have h := List.all_eq_true.mp law_lay b hb
  simp only [Bool.and_eq_true, decide_eq_true_eq, List.all_eq_true, List.mem_range] at h
  obtain ⟨⟨⟨⟨⟨⟨⟨⟨⟨⟨h1, h2⟩, h3⟩, h4⟩, h5⟩, h6⟩, h7⟩, h8⟩, h9⟩, h10⟩, h11⟩ := h
  exact ⟨h1, h2, h3, h4, h5, h6, h7, h8, h9, h10, h11⟩
theorem m30 : 30 ∈ lBL := by decide
theorem m39 : 39 ∈ lBL := by decide
theorem m71 : 71 ∈ lBL := by decide
section
variable {g : Nat} {s : tS} {l : tL} {r : Nat → Nat} {b : Nat}
theorem l_gd {β : Type} {T : Option β} (hb : b ∈ lBL) : gd (mm g s l r) (ob g b) 5 T = T := mm_gd (lB_one hb).1
theorem l_I {k : Nat} (hb : b ∈ lBL) : getI (mm g s l r) (ob g b) 5 k = some (s b k) := mm_getI (lB_one hb).1
theorem l_P {k : Nat} {v : Int32} (hb : b ∈ lBL) : putI (mm g s l r) (ob g b) 5 k v = some (mm g (up2 s b k v) l r) := mm_putI (lB_one hb).1
theorem l_R {k : Nat} (hb : b ∈ lBL) (hk : k < 8) : getR (mm g s l r) (ob g b) 5 k = some (ob g (b + 1 + k)) := mm_getR (lB_one hb).1 (by rw [((lB_one hb).2.1 k hk).1]; omega) (by have := (lB_one hb).2.2.2.2.2.2.2.2.2.2; omega)
theorem l_R0 (hb : b ∈ lBL) : getR (mm g s l r) (ob g b) 5 0 = some (ob g (b + 1)) := l_R hb (by decide)
theorem l_R1 (hb : b ∈ lBL) : getR (mm g s l r) (ob g b) 5 1 = some (ob g (b + 2)) := l_R hb (by decide)
theorem l_R2 (hb : b ∈ lBL) : getR (mm g s l r) (ob g b) 5 2 = some (ob g (b + 3)) := l_R hb (by decide)
theorem l_R3 (hb : b ∈ lBL) : getR (mm g s l r) (ob g b) 5 3 = some (ob g (b + 4)) := l_R hb (by decide)
theorem l_R4 (hb : b ∈ lBL) : getR (mm g s l r) (ob g b) 5 4 = some (ob g (b + 5)) := l_R hb (by decide)
theorem l_R5 (hb : b ∈ lBL) : getR (mm g s l r) (ob g b) 5 5 = some (ob g (b + 6)) := l_R hb (by decide)
theorem l_R6 (hb : b ∈ lBL) : getR (mm g s l r) (ob g b) 5 6 = some (ob g (b + 7)) := l_R hb (by decide)
theorem l_R7 (hb : b ∈ lBL) : getR (mm g s l r) (ob g b) 5 7 = some (ob g (b + 8)) := l_R hb (by decide)
theorem l_K {k : Nat} (hb : b ∈ lBL) (hk : k < 8) : lK (b + 1 + k) = 20 := ((lB_one hb).2.1 k hk).2
theorem l_a1 {i : Nat} (hb : b ∈ lBL) (hi : i < 12) : aldI (mm g s l r) (ob g (b + 1)) 20 (Int32.ofNat i) = some (s (b + 1) i) := mm_aldI (l_K hb (k := 0) (by decide)) (lB_one hb).2.2.1 hi (by decide)
theorem l_a2 {i : Nat} (hb : b ∈ lBL) (hi : i < 12) : aldI (mm g s l r) (ob g (b + 2)) 20 (Int32.ofNat i) = some (s (b + 2) i) := mm_aldI (l_K hb (k := 1) (by decide)) (lB_one hb).2.2.2.1 hi (by decide)
theorem l_a3 {i : Nat} (hb : b ∈ lBL) (hi : i < 12) : aldI (mm g s l r) (ob g (b + 3)) 20 (Int32.ofNat i) = some (s (b + 3) i) := mm_aldI (l_K hb (k := 2) (by decide)) (lB_one hb).2.2.2.2.1 hi (by decide)
theorem l_a4 {i : Nat} (hb : b ∈ lBL) (hi : i < 12) : aldI (mm g s l r) (ob g (b + 4)) 20 (Int32.ofNat i) = some (s (b + 4) i) := mm_aldI (l_K hb (k := 3) (by decide)) (lB_one hb).2.2.2.2.2.1 hi (by decide)
theorem l_a5 {i : Nat} (hb : b ∈ lBL) (hi : i < 400) : aldI (mm g s l r) (ob g (b + 5)) 20 (Int32.ofNat i) = some (s (b + 5) i) := mm_aldI (l_K hb (k := 4) (by decide)) (lB_one hb).2.2.2.2.2.2.1 hi (by decide)
theorem l_a6 {i : Nat} (hb : b ∈ lBL) (hi : i < 400) : aldI (mm g s l r) (ob g (b + 6)) 20 (Int32.ofNat i) = some (s (b + 6) i) := mm_aldI (l_K hb (k := 5) (by decide)) (lB_one hb).2.2.2.2.2.2.2.1 hi (by decide)
theorem l_a7 {i : Nat} (hb : b ∈ lBL) (hi : i < 30) : aldI (mm g s l r) (ob g (b + 7)) 20 (Int32.ofNat i) = some (s (b + 7) i) := mm_aldI (l_K hb (k := 6) (by decide)) (lB_one hb).2.2.2.2.2.2.2.2.1 hi (by decide)
theorem l_a8 {i : Nat} (hb : b ∈ lBL) (hi : i < 400) : aldI (mm g s l r) (ob g (b + 8)) 20 (Int32.ofNat i) = some (s (b + 8) i) := mm_aldI (l_K hb (k := 7) (by decide)) (lB_one hb).2.2.2.2.2.2.2.2.2.1 hi (by decide)
theorem l_s7 {i : Nat} {v : Int32} (hb : b ∈ lBL) (hi : i < 30) : astI (mm g s l r) (ob g (b + 7)) (Int32.ofNat i) v = some (mm g (up2 s (b + 7) i v) l r) := mm_astI (l_K hb (k := 6) (by decide)) (lB_one hb).2.2.2.2.2.2.2.2.1 hi (by decide)
theorem l_s8 {i : Nat} {v : Int32} (hb : b ∈ lBL) (hi : i < 400) : astI (mm g s l r) (ob g (b + 8)) (Int32.ofNat i) v = some (mm g (up2 s (b + 8) i v) l r) := mm_astI (l_K hb (k := 7) (by decide)) (lB_one hb).2.2.2.2.2.2.2.2.2.1 hi (by decide)
theorem l_n5 (hb : b ∈ lBL) : lenA (mm g s l r) (ob g (b + 5)) = some 400 := by rw [mm_lenA (by rw [l_K hb (k := 4) (by decide)]; decide), (lB_one hb).2.2.2.2.2.2.1]; rfl
theorem l_n7 (hb : b ∈ lBL) : lenA (mm g s l r) (ob g (b + 7)) = some 30 := by rw [mm_lenA (by rw [l_K hb (k := 6) (by decide)]; decide), (lB_one hb).2.2.2.2.2.2.2.2.1]; rfl
theorem l_n8 (hb : b ∈ lBL) : lenA (mm g s l r) (ob g (b + 8)) = some 400 := by rw [mm_lenA (by rw [l_K hb (k := 7) (by decide)]; decide), (lB_one hb).2.2.2.2.2.2.2.2.2.1]; rfl
end
theorem joins_tab {M : mMem} {o : Nat} (h : o < 16) : p4_joins (Int32.ofNat (clS o)) M = some (ib (decide (10 ≤ o ∧ o ≠ 13))) := by
  have : o = 0 ∨ o = 1 ∨ o = 2 ∨ o = 3 ∨ o = 4 ∨ o = 5 ∨ o = 6 ∨ o = 7 ∨ o = 8 ∨ o = 9 ∨ o = 10 ∨ o = 11 ∨ o = 12 ∨ o = 13 ∨ o = 14 ∨ o = 15 := by omega
  rcases this with rfl | rfl | rfl | rfl | rfl | rfl | rfl | rfl | rfl | rfl | rfl | rfl | rfl | rfl | rfl | rfl <;> rfl
theorem joined_tab {M : mMem} {o : Nat} {x y : Int32} (h : o = 10 ∨ o = 11 ∨ o = 12 ∨ o = 14 ∨ o = 15) : p4_joined (Int32.ofNat (clS o)) x y M = some (opV o x y) := by
  rcases h with rfl | rfl | rfl | rfl | rfl
  · rfl
  · show (if x < y then p4_joined_J58 M 1 else p4_joined_J58 M 0) = some (ib (decide (x < y)))
    by_cases e : x < y <;> simp [e, p4_joined_J58, p4_joined_J69, p4_joined, ib]
  · show (if y < x then p4_joined_J69 M 1 else p4_joined_J69 M 0) = some (ib (decide (y < x)))
    by_cases e : y < x <;> simp [e, p4_joined_J58, p4_joined_J69, p4_joined, ib]
  · rfl
  · rfl
theorem cl_23 {o : Nat} (h : o < 16) : (Int32.ofNat (clS o) = 23) = (o = 13) := by
  have : o = 0 ∨ o = 1 ∨ o = 2 ∨ o = 3 ∨ o = 4 ∨ o = 5 ∨ o = 6 ∨ o = 7 ∨ o = 8 ∨ o = 9 ∨ o = 10 ∨ o = 11 ∨ o = 12 ∨ o = 13 ∨ o = 14 ∨ o = 15 := by omega
  rcases this with rfl | rfl | rfl | rfl | rfl | rfl | rfl | rfl | rfl | rfl | rfl | rfl | rfl | rfl | rfl | rfl <;> decide
theorem cl_f {o : Nat} (h : o ≤ 8) : (2 : Int32) < Int32.ofNat (clS o) ∧ Int32.ofNat (clS o) < 30 ∧ clS o < 30 := by
  have : o = 0 ∨ o = 1 ∨ o = 2 ∨ o = 3 ∨ o = 4 ∨ o = 5 ∨ o = 6 ∨ o = 7 ∨ o = 8 := by omega
  rcases this with rfl | rfl | rfl | rfl | rfl | rfl | rfl | rfl | rfl <;> decide
section
variable {g : Nat} {l : tL} {r : Nat → Nat} {C : Co} {L : Lw} {p q : Nat}
/-- the facts lie there -/
def Facts (s : tS) (C : Co) (p q : Nat) : Prop := ∀ o, o ≤ 8 → s 37 (clS o) = factF C p q o 0
theorem fact_n {o : Nat} {num : Int32} (h : o ≤ 8) : factF C p q o num = factF C p q o 0 := by
  have : o = 0 ∨ o = 1 ∨ o = 2 ∨ o = 3 ∨ o = 4 ∨ o = 5 ∨ o = 6 ∨ o = 7 ∨ o = 8 := by omega
  rcases this with rfl | rfl | rfl | rfl | rfl | rfl | rfl | rfl | rfl <;> rfl
/-- one step of the class's stack -/
theorem ch_step {k192 : Nat → Int32 → mMem → Option (Int32 × mMem)} {s : tS} {n i E : Nat} {h h' : Ty} {v : Vs} {num : Int32} {o : Nat} (hi : i < E) (hE : E ≤ 400) (ho : s 35 i = Int32.ofNat (clS o)) (hn : s 36 i = num) (hs : tyS o h = some h') (hv : VT h v) (ht : v.2 ≤ i) (ha : ∀ j, j < v.2 → s 38 j = v.1 j) (hf : Facts s C p q) :
    ∃ s', p4_holds_L5 k192 (n + 1) (ob g 30) (Int32.ofNat E) (Int32.ofNat v.2) (Int32.ofNat i) (mm g s l r) = p4_holds_L5 k192 n (ob g 30) (Int32.ofNat E) (Int32.ofNat (evS o (factF C p q o num) v).2) (Int32.ofNat (i + 1)) (mm g s' l r) ∧ Fr (fun a => a = 38) s s' ∧ ∀ j, j < (evS o (factF C p q o num) v).2 → s' 38 j = (evS o (factF C p q o num) v).1 j := by
  obtain ⟨-, h16, h13, h2, -⟩ := VT_step (C := C) (p := p) (q := q) (num := num) hs hv
  have c1 : Int32.ofNat i < Int32.ofNat E := (i_lt (by omega) (by omega)).mpr hi
  have c2 : ¬ Int32.ofNat i < 0 := i_nlt0 (by omega)
  have c3 : Int32.ofNat i < 400 := (i_lt (b := 400) (by omega) (by decide)).mpr (by omega)
  have c4 : ¬ Int32.ofNat v.2 < 0 := i_nlt0 (by omega)
  have c5 : Int32.ofNat v.2 < 400 := (i_lt (b := 400) (by omega) (by decide)).mpr (by omega)
  have c6 : ¬ (400 : Int32) < Int32.ofNat v.2 := Int32.lt_asymm c5
  have a5 : aldI (mm g s l r) (ob g 35) 20 (Int32.ofNat i) = some (s 35 i) := l_a5 m30 (by omega)
  have a6 : aldI (mm g s l r) (ob g 36) 20 (Int32.ofNat i) = some (s 36 i) := l_a6 m30 (by omega)
  have r4 : getR (mm g s l r) (ob g 30) 5 4 = some (ob g 35) := l_R4 m30
  have r5 : getR (mm g s l r) (ob g 30) 5 5 = some (ob g 36) := l_R5 m30
  have r6 : getR (mm g s l r) (ob g 30) 5 6 = some (ob g 37) := l_R6 m30
  have r7 : getR (mm g s l r) (ob g 30) 5 7 = some (ob g 38) := l_R7 m30
  have n5 : lenA (mm g s l r) (ob g 35) = some 400 := l_n5 m30
  have n7 : lenA (mm g s l r) (ob g 37) = some 30 := l_n7 m30
  have n8 : lenA (mm g s l r) (ob g 38) = some 400 := l_n8 m30
  have st8 : ∀ {j : Nat} {x : Int32}, j < 400 → astI (mm g s l r) (ob g 38) (Int32.ofNat j) x = some (mm g (up2 s 38 j x) l r) := fun hj => l_s8 m30 hj
  have a8 : ∀ {j : Nat}, j < 400 → aldI (mm g s l r) (ob g 38) 20 (Int32.ofNat j) = some (s 38 j) := fun hj => l_a8 m30 hj
  rw [p4_holds_L5]
  simp only [c1, if_true, c2, if_false, r4, Option.bind_some, n5, c3, a5, ho, cl_23 h16]
  by_cases e13 : o = 13
  · have h0 := h13 e13
    have c7 : (0 : Int32) < Int32.ofNat v.2 := (i_lt (a := 0) (by omega) (by omega)).mpr h0
    have e1 : Int32.ofNat v.2 - 1 = Int32.ofNat (v.2 - 1) := by
      apply i_ext
      rw [i_tsub] <;> rw [i_toInt (by omega)] <;> simp only [i_toInt (show v.2 - 1 < 2147483648 by omega), show (1 : Int32).toInt = 1 from rfl] <;> omega
    refine ⟨up2 s 38 (v.2 - 1) (1 - s 38 (v.2 - 1)), ?_, Fr.up rfl, ?_⟩
    · simp only [e13, if_true, c7, r7, Option.bind_some, n8, c6, if_false, e1, a8 (show v.2 - 1 < 400 by omega), st8 (show v.2 - 1 < 400 by omega), p4_holds_J186, p4_holds_J182, p4_holds_J175, p4_holds_J210, p4_holds_J205, p4_holds_J192, p4_holds, i_succ]
      rw [evS, if_neg (by omega), if_pos rfl]
    · intro j hj
      rw [evS, if_neg (by omega), if_pos e13] at hj ⊢
      simp only [up1]
      by_cases ej : j = v.2 - 1
      · rw [ej, up2_eq, if_pos rfl, ha _ (by omega)]
      · rw [up2_ne (by omega), if_neg ej, ha _ hj]
  · simp only [e13, if_false, joins_tab h16, Option.bind_some, ib_z]
    by_cases e9 : o ≤ 9
    · have d : decide (10 ≤ o ∧ o ≠ 13) = false := decide_eq_false (by omega)
      refine ⟨up2 s 38 v.2 (factF C p q o num), ?_, Fr.up rfl, ?_⟩
      · simp only [d, if_true, c4, if_false, r7, Option.bind_some, n8, c5]
        have ee : (evS o (factF C p q o num) v).2 = v.2 + 1 := by rw [evS, if_pos e9]
        rw [ee]
        by_cases e8 : o ≤ 8
        · obtain ⟨q1, q2, q3⟩ := cl_f e8
          have a7 : aldI (mm g s l r) (ob g 37) 20 (Int32.ofNat (clS o)) = some (s 37 (clS o)) := l_a7 m30 q3
          simp only [q1, q2, if_true, r6, Option.bind_some, n7, a7, hf o e8, p4_holds_J186, p4_holds_J182, p4_holds_J175, p4_holds_J210, p4_holds_J205, p4_holds_J192, p4_holds, st8 (show v.2 < 400 by omega), i_succ, fact_n (num := num) e8]
        · have e : o = 9 := by omega
          subst e
          have q1 : ¬ (2 : Int32) < Int32.ofNat (clS 9) := by decide
          simp only [q1, if_false, p4_holds_J186, p4_holds_J182, p4_holds_J175, p4_holds_J210, p4_holds_J205, p4_holds_J192, p4_holds, r5, Option.bind_some, a6, hn, st8 (show v.2 < 400 by omega), i_succ]
          rfl
      · intro j hj
        rw [evS, if_pos e9] at hj ⊢
        simp only [up1]
        by_cases ej : j = v.2
        · rw [ej, up2_eq, if_pos rfl]
        · rw [up2_ne (by omega), if_neg ej, ha _ (by have : j < v.2 + 1 := hj; omega)]
    · have d : decide (10 ≤ o ∧ o ≠ 13) = true := decide_eq_true (by omega)
      have h2' := h2 (by omega) e13
      have c7 : (1 : Int32) < Int32.ofNat v.2 := (i_lt (a := 1) (by omega) (by omega)).mpr (by omega)
      have e1 : Int32.ofNat v.2 + (-1) = Int32.ofNat (v.2 - 1) := by
        apply i_ext
        rw [i_tadd] <;> rw [i_toInt (by omega)] <;> simp only [i_toInt (show v.2 - 1 < 2147483648 by omega), show (-1 : Int32).toInt = -1 from rfl] <;> omega
      have e2 : Int32.ofNat (v.2 - 1) - 1 = Int32.ofNat (v.2 - 2) := by
        apply i_ext
        rw [i_tsub] <;> rw [i_toInt (by omega)] <;> simp only [i_toInt (show v.2 - 2 < 2147483648 by omega), show (1 : Int32).toInt = 1 from rfl] <;> omega
      refine ⟨up2 s 38 (v.2 - 2) (opV o (s 38 (v.2 - 2)) (s 38 (v.2 - 1))), ?_, Fr.up rfl, ?_⟩
      · have ee : (evS o (factF C p q o num) v).2 = v.2 - 1 := by rw [evS, if_neg e9, if_neg e13]
        simp only [d, Bool.true_eq_false, if_false, c7, if_true, r7, Option.bind_some, n8, c6, e1, e2, a8 (show v.2 - 1 < 400 by omega), a8 (show v.2 - 2 < 400 by omega), joined_tab (show o = 10 ∨ o = 11 ∨ o = 12 ∨ o = 14 ∨ o = 15 by omega), st8 (show v.2 - 2 < 400 by omega), p4_holds_J186, p4_holds_J182, p4_holds_J175, p4_holds_J210, p4_holds_J205, p4_holds_J192, p4_holds, i_succ, ee]
      · intro j hj
        rw [evS, if_neg e9, if_neg e13] at hj ⊢
        have hj' : j < v.2 - 1 := hj
        simp only [up1]
        by_cases ej : j = v.2 - 2
        · rw [ej, up2_eq, if_pos rfl, ha _ (by omega), ha _ (by omega)]
        · rw [up2_ne (by omega), if_neg ej, ha _ (by omega)]
theorem ev_top {o : Nat} {f : Int32} {v : Vs} : (evS o f v).2 ≤ v.2 + 1 := by
  unfold evS
  split
  · exact Nat.le_refl _
  · split
    · exact Nat.le_succ _
    · show v.2 - 1 ≤ v.2 + 1
      omega
/-- the class's stack runs through -/
theorem ch_run {k192 : Nat → Int32 → mMem → Option (Int32 × mMem)} {E : Nat} (hE : E ≤ 400) : ∀ (k fuel i : Nat) (s : tS) (h h' : Ty) (v : Vs), i + k = E → k < fuel → (∀ j, i ≤ j → j < E → s 35 j = Int32.ofNat (clS (lwO L j)) ∧ s 36 j = lwN L j) → tyR (lwO L) k i h = some h' → VT h v → v.2 ≤ i → (∀ j, j < v.2 → s 38 j = v.1 j) → Facts s C p q →
    ∃ s', p4_holds_L5 k192 fuel (ob g 30) (Int32.ofNat E) (Int32.ofNat v.2) (Int32.ofNat i) (mm g s l r) = k192 (ob g 30) (Int32.ofNat (evR L C p q k i v).2) (mm g s' l r) ∧ Fr (fun a => a = 38) s s' ∧ (∀ j, j < (evR L C p q k i v).2 → s' 38 j = (evR L C p q k i v).1 j) ∧ VT h' (evR L C p q k i v) := by
  intro k
  induction k with
  | zero =>
    intro fuel i s h h' v h1 h2 hc hty hv ht ha hf
    obtain ⟨n, rfl⟩ : ∃ n, fuel = n + 1 := ⟨fuel - 1, by omega⟩
    have e : i = E := by omega
    subst e
    have e2 : h' = h := (Option.some.inj hty).symm
    subst e2
    refine ⟨s, ?_, Fr.refl, ha, hv⟩
    rw [p4_holds_L5, if_neg (Int32.lt_irrefl)]
    rfl
  | succ k ih =>
    intro fuel i s h h' v h1 h2 hc hty hv ht ha hf
    obtain ⟨n, rfl⟩ : ∃ n, fuel = n + 1 := ⟨fuel - 1, by omega⟩
    obtain ⟨h3, t1, t2⟩ := Option.bind_eq_some_iff.mp hty
    obtain ⟨s1, e1, f1, a1⟩ := ch_step (g := g) (l := l) (r := r) (C := C) (p := p) (q := q) (k192 := k192) (n := n) (E := E) (by omega) hE (hc i (Nat.le_refl _) (by omega)).1 (hc i (Nat.le_refl _) (by omega)).2 t1 hv ht ha hf
    obtain ⟨v1, -⟩ := VT_step (C := C) (p := p) (q := q) (num := lwN L i) t1 hv
    obtain ⟨s2, e2, f2, a2, v2⟩ := ih n (i + 1) s1 h3 h' _ (by omega) (by omega) (fun j a b => by rw [f1 35 (by decide), f1 36 (by decide)]; exact hc j (by omega) b) t2 v1 (by have := ev_top (o := lwO L i) (f := factF C p q (lwO L i) (lwN L i)) (v := v); omega) a1 (fun o ho => by rw [f1 37 (by decide)]; exact hf o ho)
    exact ⟨s2, e1.trans e2, f1.trans f2, a2, v2⟩
theorem ch_end {s : tS} {t : Nat} {x : Int32} (ht : t ≤ 400) (hx : 0 < t → s 38 0 = x) (h01 : 0 < t → x = 0 ∨ x = 1) : p4_holds_J192 (ob g 30) (Int32.ofNat t) (mm g s l r) = some (ib (decide (t = 0 ∨ x = 1)), mm g s l r) := by
  have r7 : getR (mm g s l r) (ob g 30) 5 7 = some (ob g 38) := l_R7 m30
  have a8 : aldI (mm g s l r) (ob g 38) 20 0 = some (s 38 0) := l_a8 m30 (i := 0) (by decide)
  by_cases h0 : t = 0
  · subst h0
    rfl
  · have c : (0 : Int32) < Int32.ofNat t := (i_lt (a := 0) (by omega) (by omega)).mpr (by omega)
    simp only [p4_holds_J192, c, if_true, r7, Option.bind_some, a8, hx (by omega)]
    rcases h01 (by omega) with rfl | rfl
    · simp [h0, p4_holds_J186, p4_holds_J182, p4_holds_J175, p4_holds_J210, p4_holds_J205, p4_holds_J192, p4_holds, bZ_0, ib_f]
    · simp [h0, p4_holds_J186, p4_holds_J182, p4_holds_J175, p4_holds_J210, p4_holds_J205, p4_holds_J192, p4_holds, bZ_1, ib_t]
theorem ch_holds {s : tS} {i : Nat} (hL : LIs s 30 L) (hV : VL L) (hi : i < lwC L) (hf : Facts s C p q) : ∃ s', p4_holds (ob g 30) (Int32.ofNat (lwB L i)) (Int32.ofNat (lwE L i)) (mm g s l r) = some (ib (holdsF L C p q i), mm g s' l r) ∧ Fr (fun a => a = 38) s s' := by
  obtain ⟨-, -, hV⟩ := hV
  obtain ⟨-, -, -, v1, v2, v3⟩ := hV i hi
  obtain ⟨-, hL⟩ := hL
  obtain ⟨-, -, -, -, hc⟩ := hL i hi
  rw [p4_holds, l_gd m30]
  rcases v3 with v3 | ⟨h', t1, t2, t3⟩
  · obtain ⟨s', e1, f1, a1, w1⟩ := ch_run (g := g) (l := l) (r := r) (L := L) (C := C) (p := p) (q := q) (k192 := p4_holds_J192) (E := lwE L i) v2 (lwE L i - lwB L i) gF (lwB L i) s (fun _ => false, 0) (fun _ => false, 0) v00 (by omega) (gF_gt (by omega)) hc (by rw [v3, Nat.sub_self]; rfl) ⟨rfl, fun j hj => absurd hj (Nat.not_lt_zero j)⟩ (Nat.zero_le _) (fun j hj => absurd hj (Nat.not_lt_zero j)) hf
    refine ⟨s', e1.trans ?_, f1⟩
    have e0 : (evR L C p q (lwE L i - lwB L i) (lwB L i) v00).2 = 0 := w1.1.symm
    rw [ch_end (x := 0) (by omega) (by omega) (by omega), holdsF]
    simp [e0]
  · obtain ⟨s', e1, f1, a1, w1⟩ := ch_run (g := g) (l := l) (r := r) (L := L) (C := C) (p := p) (q := q) (k192 := p4_holds_J192) (E := lwE L i) v2 (lwE L i - lwB L i) gF (lwB L i) s (fun _ => false, 0) h' v00 (by omega) (gF_gt (by omega)) hc t1 ⟨rfl, fun j hj => absurd hj (Nat.not_lt_zero j)⟩ (Nat.zero_le _) (fun j hj => absurd hj (Nat.not_lt_zero j)) hf
    refine ⟨s', e1.trans ?_, f1⟩
    have e0 : (evR L C p q (lwE L i - lwB L i) (lwB L i) v00).2 = 1 := w1.1.symm.trans t2
    rw [ch_end (x := (evR L C p q (lwE L i - lwB L i) (lwB L i) v00).1 0) (by omega) (fun h0 => a1 0 h0) (fun h0 => w1.2 0 h0 t3), holdsF]
end
