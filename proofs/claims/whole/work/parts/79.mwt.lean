/-! the reference's weight -/
theorem k295 : lK 295 = 20 := by decide +kernel
theorem n295 : lNn 295 = 400 := by decide +kernel
theorem w_R17 {g : Nat} {s : tS} {l : tL} {r : Nat → Nat} : getR (mm g s l r) (ob g 287) 12 17 = some (ob g 295) := mm_getR k287 (by decide +kernel) (by decide)
section
variable {g : Nat} {l : tL} {r : Nat → Nat} {C : Co} {L : Lw} {p q : Nat}
theorem m_fact {s : tS} (h : Ms s C) (hp : p < sz C) (hq : q < sz C) {o : Nat} {num : Int32} (ho : o ≤ 9) : p12_factOf (ob g 287) (Int32.ofNat o) num (Int32.ofNat p) (Int32.ofNat q) (mm g s l r) = some (factF C p q o num) := by
  have : o = 0 ∨ o = 1 ∨ o = 2 ∨ o = 3 ∨ o = 4 ∨ o = 5 ∨ o = 6 ∨ o = 7 ∨ o = 8 ∨ o = 9 := by omega
  rw [p12_factOf, w_gd]
  rcases this with rfl | rfl | rfl | rfl | rfl | rfl | rfl | rfl | rfl | rfl
  · rfl
  · rfl
  · show ((p12_of (ob g 287) (Int32.ofNat q) 0 (mm g s l r)).bind fun v_1 => some v_1) = some (C.2 q 0)
    rw [m_of0 h hq]
    rfl
  · show ((p12_of (ob g 287) (Int32.ofNat p) 0 (mm g s l r)).bind fun v_1 => some v_1) = some (C.2 p 0)
    rw [m_of0 h hp]
    rfl
  · show ((p12_of (ob g 287) (Int32.ofNat q) 1 (mm g s l r)).bind fun v_1 => some (maxI 0 v_1)) = some (maxI 0 (C.2 q 1))
    rw [m_of1 h hq]
    rfl
  · show ((getR (mm g s l r) (ob g 287) 12 1).bind fun v_4 => (aldI (mm g s l r) v_4 20 3).bind fun v_5 => some v_5) = some (C.1 3)
    rw [w_R1, Option.bind_some, m_3 h]
    rfl
  · show ((p12_isSingle (ob g 287) (Int32.ofNat q) (mm g s l r)).bind fun v_6 => if v_6 = 0 then p12_factOf_J105 (mm g s l r) 1 else p12_factOf_J105 (mm g s l r) 0) = some (if C.2 q 4 = -1 then 0 else 1)
    rw [m_single h hq, Option.bind_some]
    by_cases e : C.2 q 4 = -1 <;> simp [e, ib, p12_factOf_J105, p12_factOf_J121, p12_factOf_J143, p12_factOf]
  · show ((p12_isParent (ob g 287) (Int32.ofNat p) (Int32.ofNat q) (mm g s l r)).bind fun v_6 => if v_6 = 0 then p12_factOf_J121 (mm g s l r) 0 else p12_factOf_J121 (mm g s l r) 1) = some (if C.2 q 3 = Int32.ofNat p then 1 else 0)
    rw [m_parent h hq, Option.bind_some]
    by_cases e : C.2 q 3 = Int32.ofNat p <;> simp [e, ib, p12_factOf_J105, p12_factOf_J121, p12_factOf_J143, p12_factOf]
  · show ((p12_of (ob g 287) (Int32.ofNat q) 0 (mm g s l r)).bind fun v_8 => (getR (mm g s l r) (ob g 287) 12 1).bind fun v_9 => (aldI (mm g s l r) v_9 20 5).bind fun v_10 => if v_8 < v_10 then p12_factOf_J143 (mm g s l r) 1 else p12_factOf_J143 (mm g s l r) 0) = some (if C.2 q 0 < C.1 5 then 1 else 0)
    rw [m_of0 h hq, Option.bind_some, w_R1, Option.bind_some, m_5 h, Option.bind_some]
    by_cases e : C.2 q 0 < C.1 5 <;> simp [e, p12_factOf_J105, p12_factOf_J121, p12_factOf_J143, p12_factOf]
  · rfl
theorem e446 {i k : Nat} : (446 : Int32) + (4 : Int32) * Int32.ofNat i + Int32.ofNat k = Int32.ofNat (446 + 4 * i + k) := by
  rw [← i_add, ← i_add, ← i_mul]
  rfl
theorem e446' {i : Nat} : (446 : Int32) + (4 : Int32) * Int32.ofNat i = Int32.ofNat (446 + 4 * i) := by
  rw [← i_add, ← i_mul]
  rfl
theorem e494 {i : Nat} : (494 : Int32) + (2 : Int32) * Int32.ofNat i = Int32.ofNat (494 + 2 * i) := by
  rw [← i_add, ← i_mul]
  rfl
theorem i_add1 {n : Nat} : Int32.ofNat n + 1 = Int32.ofNat (n + 1) := i_succ
theorem i_add2 {n : Nat} : Int32.ofNat n + 2 = Int32.ofNat (n + 2) := (Int32.ofNat_add n 2).symm
theorem i_add3 {n : Nat} : Int32.ofNat n + 3 = Int32.ofNat (n + 3) := (Int32.ofNat_add n 3).symm
theorem i_sub1 {n : Nat} (h : 0 < n) (hb : n < 2147483648) : Int32.ofNat n - 1 = Int32.ofNat (n - 1) := by
  apply i_ext
  rw [i_tsub] <;> rw [i_toInt hb] <;> simp only [i_toInt (show n - 1 < 2147483648 by omega), show (1 : Int32).toInt = 1 from rfl] <;> omega
theorem i_addm {n : Nat} (h : 0 < n) (hb : n < 2147483648) : Int32.ofNat n + (-1) = Int32.ofNat (n - 1) := by
  apply i_ext
  rw [i_tadd] <;> rw [i_toInt hb] <;> simp only [i_toInt (show n - 1 < 2147483648 by omega), show (-1 : Int32).toInt = -1 from rfl] <;> omega
theorem mh_step {k271 : Nat → Int32 → mMem → Option (Int32 × mMem)} {s : tS} {n i c E : Nat} {h h' : Ty} {v : Vs} {num : Int32} {o : Nat} (hM : Ms s C) (hp : p < sz C) (hq : q < sz C) (hc : c < 12) (hEd : s 288 (446 + 4 * c + 3) = Int32.ofNat E) (hi : i < E) (hE : E ≤ 400) (ho : s 288 (494 + 2 * i) = Int32.ofNat o) (hn : s 288 (494 + 2 * i + 1) = num) (hs : tyS o h = some h') (hv : VT h v) (ht : v.2 ≤ i) (ha : ∀ j, j < v.2 → s 295 j = v.1 j) :
    ∃ s', p12_holdsLine_L23 k271 (n + 1) (ob g 287) (Int32.ofNat p) (Int32.ofNat q) (Int32.ofNat v.2) (Int32.ofNat (446 + 4 * c)) (Int32.ofNat i) (mm g s l r) = p12_holdsLine_L23 k271 n (ob g 287) (Int32.ofNat p) (Int32.ofNat q) (Int32.ofNat (evS o (factF C p q o num) v).2) (Int32.ofNat (446 + 4 * c)) (Int32.ofNat (i + 1)) (mm g s' l r) ∧ Fr (fun a => a = 295) s s' ∧ ∀ j, j < (evS o (factF C p q o num) v).2 → s' 295 j = (evS o (factF C p q o num) v).1 j := by
  obtain ⟨-, h16, h13, h2, h1415⟩ := VT_step (C := C) (p := p) (q := q) (num := num) hs hv
  have c1 : Int32.ofNat i < Int32.ofNat E := (i_lt (by omega) (by omega)).mpr hi
  have st : ∀ {s : tS} {j : Nat} {x : Int32}, j < 400 → astI (mm g s l r) (ob g 295) (Int32.ofNat j) x = some (mm g (up2 s 295 j x) l r) := fun hj => mm_astI k295 n295 hj (by decide)
  have a8 : ∀ {s : tS} {j : Nat}, j < 400 → aldI (mm g s l r) (ob g 295) 20 (Int32.ofNat j) = some (s 295 j) := fun hj => mm_aldI k295 n295 hj (by decide)
  have c9 : ((9 : Int32) < Int32.ofNat o) = (9 < o) := propext (i_lt (a := 9) (by omega) (by omega))
  have c13 : (Int32.ofNat o = 13) = (o = 13) := propext (i_eq (b := 13) (by omega) (by omega))
  have c11 : (Int32.ofNat o = 11) = (o = 11) := propext (i_eq (b := 11) (by omega) (by omega))
  have c12 : (Int32.ofNat o = 12) = (o = 12) := propext (i_eq (b := 12) (by omega) (by omega))
  have c14 : (Int32.ofNat o = 14) = (o = 14) := propext (i_eq (b := 14) (by omega) (by omega))
  have c10 : (Int32.ofNat o = 10) = (o = 10) := propext (i_eq (b := 10) (by omega) (by omega))
  rw [p12_holdsLine_L23]
  simp only [w_R1, Option.bind_some, i_add3, w_ald (show 446 + 4 * c + 3 < 2143 by omega), hEd, c1, if_true, e494, w_ald (show 494 + 2 * i < 2143 by omega), ho, c9, c13]
  by_cases e9 : o ≤ 9
  · have d : ¬ 9 < o := by omega
    refine ⟨up2 s 295 v.2 (factF C p q o num), ?_, Fr.up rfl, ?_⟩
    · have ee : (evS o (factF C p q o num) v).2 = v.2 + 1 := by rw [evS, if_pos e9]
      simp only [d, if_false, w_R17, w_R1, Option.bind_some, i_add1, w_ald (show 494 + 2 * i + 1 < 2143 by omega), hn, m_fact hM hp hq e9, st (show v.2 < 400 by omega), p12_holdsLine_J265, p12_holdsLine_J264, p12_holdsLine_J229, p12_holdsLine_J291, p12_holdsLine_J286, p12_holdsLine_J271, p12_holdsLine, ee]
    · intro j hj
      rw [evS, if_pos e9] at hj ⊢
      simp only [up1]
      by_cases ej : j = v.2
      · rw [ej, up2_eq, if_pos rfl]
      · rw [up2_ne (by omega), if_neg ej, ha _ (by have : j < v.2 + 1 := hj; omega)]
  · have d : 9 < o := by omega
    by_cases e13 : o = 13
    · have h0 := h13 e13
      refine ⟨up2 s 295 (v.2 - 1) (1 - s 295 (v.2 - 1)), ?_, Fr.up rfl, ?_⟩
      · have ee : (evS o (factF C p q o num) v).2 = v.2 := by rw [evS, if_neg e9, if_pos e13]
        rw [ee]
        simp only [d, if_true, eq_true e13, w_R17, Option.bind_some, i_sub1 h0 (by omega), a8 (show v.2 - 1 < 400 by omega), st (show v.2 - 1 < 400 by omega), p12_holdsLine_J265, p12_holdsLine_J264, p12_holdsLine_J229, p12_holdsLine_J291, p12_holdsLine_J286, p12_holdsLine_J271, p12_holdsLine, i_succ]
      · intro j hj
        rw [evS, if_neg (by omega), if_pos e13] at hj ⊢
        simp only [up1]
        by_cases ej : j = v.2 - 1
        · rw [ej, up2_eq, if_pos rfl, ha _ (by omega)]
        · rw [up2_ne (by omega), if_neg ej, ha _ hj]
    · have h2' := h2 (by omega) e13
      have ee : (evS o (factF C p q o num) v).2 = v.2 - 1 := by rw [evS, if_neg e9, if_neg e13]
      refine ⟨up2 s 295 (v.2 - 2) (opV o (s 295 (v.2 - 2)) (s 295 (v.2 - 1))), ?_, Fr.up rfl, ?_⟩
      · have z1 : s 295 (v.2 - 2) = v.1 (v.2 - 2) := ha _ (by omega)
        have z2 : s 295 (v.2 - 1) = v.1 (v.2 - 1) := ha _ (by omega)
        simp only [d, if_true, e13, if_false, w_R17, Option.bind_some, i_addm (show 0 < v.2 by omega) (by omega), i_sub1 (show 0 < v.2 - 1 by omega) (by omega), show v.2 - 1 - 1 = v.2 - 2 by omega, a8 (show v.2 - 1 < 400 by omega), a8 (show v.2 - 2 < 400 by omega), c11, c12, c14, ee]
        have : o = 10 ∨ o = 11 ∨ o = 12 ∨ o = 14 ∨ o = 15 := by omega
        rcases this with eo | eo | eo | eo | eo
        · have ov : opV o (s 295 (v.2 - 2)) (s 295 (v.2 - 1)) = s 295 (v.2 - 2) + s 295 (v.2 - 1) := by rw [eo]; rfl
          have n11 : ¬ o = 11 := by omega
          have n12 : ¬ o = 12 := by omega
          have n14 : ¬ o = 14 := by omega
          by_cases e : 0 < s 295 (v.2 - 2) + s 295 (v.2 - 1) <;> simp only [ov, n11, n12, n14, eq_true eo, e, one_z, eq_self, if_true, if_false, reduceCtorEq, p12_holdsLine_J265, p12_holdsLine_J264, p12_holdsLine_J229, p12_holdsLine_J291, p12_holdsLine_J286, p12_holdsLine_J271, p12_holdsLine, w_R17, Option.bind_some, i_sub1 (show 0 < v.2 - 1 by omega) (show v.2 - 1 < 2147483648 by omega), show v.2 - 1 - 1 = v.2 - 2 by omega, st (show v.2 - 2 < 400 by omega), i_succ, c10]
        · have n12 : ¬ o = 12 := by omega
          have n10 : ¬ o = 10 := by omega
          by_cases e : s 295 (v.2 - 2) < s 295 (v.2 - 1)
          · have ov : opV o (s 295 (v.2 - 2)) (s 295 (v.2 - 1)) = 1 := by rw [eo]; show ib (decide (s 295 (v.2 - 2) < s 295 (v.2 - 1))) = 1; rw [decide_eq_true e]; rfl
            simp only [ov, n12, n10, eq_true eo, e, one_z, eq_self, if_true, if_false, reduceCtorEq, p12_holdsLine_J265, p12_holdsLine_J264, p12_holdsLine_J229, p12_holdsLine_J291, p12_holdsLine_J286, p12_holdsLine_J271, p12_holdsLine, w_R17, Option.bind_some, i_sub1 (show 0 < v.2 - 1 by omega) (show v.2 - 1 < 2147483648 by omega), show v.2 - 1 - 1 = v.2 - 2 by omega, st (show v.2 - 2 < 400 by omega), i_succ, c10]
          · have ov : opV o (s 295 (v.2 - 2)) (s 295 (v.2 - 1)) = 0 := by rw [eo]; show ib (decide (s 295 (v.2 - 2) < s 295 (v.2 - 1))) = 0; rw [decide_eq_false e]; rfl
            simp only [ov, n12, n10, eq_true eo, e, one_z, eq_self, if_true, if_false, reduceCtorEq, p12_holdsLine_J265, p12_holdsLine_J264, p12_holdsLine_J229, p12_holdsLine_J291, p12_holdsLine_J286, p12_holdsLine_J271, p12_holdsLine, w_R17, Option.bind_some, i_sub1 (show 0 < v.2 - 1 by omega) (show v.2 - 1 < 2147483648 by omega), show v.2 - 1 - 1 = v.2 - 2 by omega, st (show v.2 - 2 < 400 by omega), i_succ, c10]
        · have n11 : ¬ o = 11 := by omega
          have n10 : ¬ o = 10 := by omega
          by_cases e : s 295 (v.2 - 1) < s 295 (v.2 - 2)
          · have ov : opV o (s 295 (v.2 - 2)) (s 295 (v.2 - 1)) = 1 := by rw [eo]; show ib (decide (s 295 (v.2 - 1) < s 295 (v.2 - 2))) = 1; rw [decide_eq_true e]; rfl
            simp only [ov, n11, n10, eq_true eo, e, one_z, eq_self, if_true, if_false, reduceCtorEq, p12_holdsLine_J265, p12_holdsLine_J264, p12_holdsLine_J229, p12_holdsLine_J291, p12_holdsLine_J286, p12_holdsLine_J271, p12_holdsLine, w_R17, Option.bind_some, i_sub1 (show 0 < v.2 - 1 by omega) (show v.2 - 1 < 2147483648 by omega), show v.2 - 1 - 1 = v.2 - 2 by omega, st (show v.2 - 2 < 400 by omega), i_succ, c10]
          · have ov : opV o (s 295 (v.2 - 2)) (s 295 (v.2 - 1)) = 0 := by rw [eo]; show ib (decide (s 295 (v.2 - 1) < s 295 (v.2 - 2))) = 0; rw [decide_eq_false e]; rfl
            simp only [ov, n11, n10, eq_true eo, e, one_z, eq_self, if_true, if_false, reduceCtorEq, p12_holdsLine_J265, p12_holdsLine_J264, p12_holdsLine_J229, p12_holdsLine_J291, p12_holdsLine_J286, p12_holdsLine_J271, p12_holdsLine, w_R17, Option.bind_some, i_sub1 (show 0 < v.2 - 1 by omega) (show v.2 - 1 < 2147483648 by omega), show v.2 - 1 - 1 = v.2 - 2 by omega, st (show v.2 - 2 < 400 by omega), i_succ, c10]
        · obtain ⟨y1, y2⟩ := h1415 (Or.inl eo)
          rw [← z1] at y1
          rw [← z2] at y2
          have y3 := (b_and y1 y2).2
          have n11 : ¬ o = 11 := by omega
          have n12 : ¬ o = 12 := by omega
          have n10 : ¬ o = 10 := by omega
          have ov : opV o (s 295 (v.2 - 2)) (s 295 (v.2 - 1)) = s 295 (v.2 - 2) &&& s 295 (v.2 - 1) := by rw [eo]; rfl
          by_cases e : s 295 (v.2 - 2) + s 295 (v.2 - 1) = 2 <;> simp only [ov, y3, n11, n12, n10, eq_true eo, e, one_z, eq_self, if_true, if_false, reduceCtorEq, p12_holdsLine_J265, p12_holdsLine_J264, p12_holdsLine_J229, p12_holdsLine_J291, p12_holdsLine_J286, p12_holdsLine_J271, p12_holdsLine, w_R17, Option.bind_some, i_sub1 (show 0 < v.2 - 1 by omega) (show v.2 - 1 < 2147483648 by omega), show v.2 - 1 - 1 = v.2 - 2 by omega, st (show v.2 - 2 < 400 by omega), i_succ, c10]
        · obtain ⟨y1, y2⟩ := h1415 (Or.inr eo)
          rw [← z1] at y1
          rw [← z2] at y2
          have y3 := (b_or y1 y2).2
          have n11 : ¬ o = 11 := by omega
          have n12 : ¬ o = 12 := by omega
          have n14 : ¬ o = 14 := by omega
          have n10 : ¬ o = 10 := by omega
          have ov : opV o (s 295 (v.2 - 2)) (s 295 (v.2 - 1)) = s 295 (v.2 - 2) ||| s 295 (v.2 - 1) := by rw [eo]; rfl
          by_cases e : 0 < s 295 (v.2 - 2) + s 295 (v.2 - 1) <;> simp only [ov, y3, n11, n12, n14, n10, e, one_z, eq_self, if_true, if_false, reduceCtorEq, p12_holdsLine_J265, p12_holdsLine_J264, p12_holdsLine_J229, p12_holdsLine_J291, p12_holdsLine_J286, p12_holdsLine_J271, p12_holdsLine, w_R17, Option.bind_some, i_sub1 (show 0 < v.2 - 1 by omega) (show v.2 - 1 < 2147483648 by omega), show v.2 - 1 - 1 = v.2 - 2 by omega, st (show v.2 - 2 < 400 by omega), i_succ, c10]
      · intro j hj
        rw [evS, if_neg e9, if_neg e13] at hj ⊢
        have hj' : j < v.2 - 1 := hj
        simp only [up1]
        by_cases ej : j = v.2 - 2
        · rw [ej, up2_eq, if_pos rfl, ha _ (by omega), ha _ (by omega)]
        · rw [up2_ne (by omega), if_neg ej, ha _ (by omega)]
theorem Ms.f {s s' : tS} (h : Ms s C) (hf : Fr (fun a => a = 295) s s') : Ms s' C := h.fr hf (fun o ho => by omega)
theorem mh_run {k271 : Nat → Int32 → mMem → Option (Int32 × mMem)} {c E : Nat} (hp : p < sz C) (hq : q < sz C) (hc : c < 12) (hE : E ≤ 400) : ∀ (k fuel i : Nat) (s : tS) (h h' : Ty) (v : Vs), Ms s C → s 288 (446 + 4 * c + 3) = Int32.ofNat E → i + k = E → k < fuel → (∀ j, i ≤ j → j < E → s 288 (494 + 2 * j) = Int32.ofNat (lwO L j) ∧ s 288 (494 + 2 * j + 1) = lwN L j) → tyR (lwO L) k i h = some h' → VT h v → v.2 ≤ i → (∀ j, j < v.2 → s 295 j = v.1 j) →
    ∃ s', p12_holdsLine_L23 k271 fuel (ob g 287) (Int32.ofNat p) (Int32.ofNat q) (Int32.ofNat v.2) (Int32.ofNat (446 + 4 * c)) (Int32.ofNat i) (mm g s l r) = k271 (ob g 287) (Int32.ofNat (evR L C p q k i v).2) (mm g s' l r) ∧ Fr (fun a => a = 295) s s' ∧ (∀ j, j < (evR L C p q k i v).2 → s' 295 j = (evR L C p q k i v).1 j) ∧ VT h' (evR L C p q k i v) := by
  intro k
  induction k with
  | zero =>
    intro fuel i s h h' v hM hEd h1 h2 hcd hty hv ht ha
    obtain ⟨n, rfl⟩ : ∃ n, fuel = n + 1 := ⟨fuel - 1, by omega⟩
    have e : i = E := by omega
    subst e
    have e2 : h' = h := (Option.some.inj hty).symm
    subst e2
    refine ⟨s, ?_, Fr.refl, ha, hv⟩
    rw [p12_holdsLine_L23]
    simp only [w_R1, Option.bind_some, i_add3, w_ald (show 446 + 4 * c + 3 < 2143 by omega), hEd, Int32.lt_irrefl, if_false]
    rfl
  | succ k ih =>
    intro fuel i s h h' v hM hEd h1 h2 hcd hty hv ht ha
    obtain ⟨n, rfl⟩ : ∃ n, fuel = n + 1 := ⟨fuel - 1, by omega⟩
    obtain ⟨h3, t1, t2⟩ := Option.bind_eq_some_iff.mp hty
    obtain ⟨s1, e1, f1, a1⟩ := mh_step (g := g) (l := l) (r := r) (C := C) (p := p) (q := q) (k271 := k271) (n := n) (E := E) hM hp hq hc hEd (by omega) hE (hcd i (Nat.le_refl _) (by omega)).1 (hcd i (Nat.le_refl _) (by omega)).2 t1 hv ht ha
    obtain ⟨v1, -⟩ := VT_step (C := C) (p := p) (q := q) (num := lwN L i) t1 hv
    obtain ⟨s2, e2, f2, a2, v2⟩ := ih n (i + 1) s1 h3 h' _ (hM.f f1) (by rw [f1 288 (by decide)]; exact hEd) (by omega) (by omega) (fun j a b => by rw [f1 288 (by decide)]; exact hcd j (by omega) b) t2 v1 (by have := ev_top (o := lwO L i) (f := factF C p q (lwO L i) (lwN L i)) (v := v); omega) a1
    exact ⟨s2, e1.trans e2, f1.trans f2, a2, v2⟩
theorem mh_end {s : tS} {t : Nat} {x : Int32} (ht : t ≤ 400) (hx : 0 < t → s 295 0 = x) : p12_holdsLine_J271 (ob g 287) (Int32.ofNat t) (mm g s l r) = some (ib (decide (t = 0 ∨ x = 1)), mm g s l r) := by
  have a8 : aldI (mm g s l r) (ob g 295) 20 0 = some (s 295 0) := mm_aldI k295 n295 (k := 0) (by decide) (by decide)
  by_cases h0 : t = 0
  · subst h0
    rfl
  · have c : ¬ Int32.ofNat t = 0 := fun e => h0 ((i_eq (b := 0) (by omega) (by omega)).mp e)
    simp only [p12_holdsLine_J271, c, if_false, w_R17, Option.bind_some, a8, hx (by omega)]
    by_cases e : x = 1
    · simp [e, p12_holdsLine_J265, p12_holdsLine_J264, p12_holdsLine_J229, p12_holdsLine_J291, p12_holdsLine_J286, p12_holdsLine_J271, p12_holdsLine, bZ_1, ib_t]
    · simp [e, h0, p12_holdsLine_J265, p12_holdsLine_J264, p12_holdsLine_J229, p12_holdsLine_J291, p12_holdsLine_J286, p12_holdsLine_J271, p12_holdsLine, bZ_0, ib_f]
theorem mh_holds {s : tS} {i : Nat} (hM : Ms s C) (hp : p < sz C) (hq : q < sz C) (hL : LMs s L) (hV : VL L) (hi : i < lwC L) : ∃ s', p12_holdsLine (ob g 287) (Int32.ofNat i) (Int32.ofNat p) (Int32.ofNat q) (mm g s l r) = some (ib (holdsF L C p q i), mm g s' l r) ∧ Fr (fun a => a = 295) s s' := by
  obtain ⟨h12, -, hV⟩ := hV
  obtain ⟨-, -, -, v1, v2, v3⟩ := hV i hi
  obtain ⟨-, -, hL⟩ := hL
  obtain ⟨-, -, hb, he, hc⟩ := hL i hi
  rw [p12_holdsLine, w_gd]
  simp only [e446', i_add2, w_R1, Option.bind_some, w_ald (show 446 + 4 * i + 2 < 2143 by omega), hb]
  rcases v3 with v3 | ⟨h', t1, t2, t3⟩
  · obtain ⟨s', e1, f1, a1, w1⟩ := mh_run (g := g) (l := l) (r := r) (L := L) (C := C) (p := p) (q := q) (k271 := p12_holdsLine_J271) hp hq (show i < 12 by omega) v2 (lwE L i - lwB L i) gF (lwB L i) s (fun _ => false, 0) (fun _ => false, 0) v00 hM he (by omega) (gF_gt (by omega)) hc (by rw [v3, Nat.sub_self]; rfl) ⟨rfl, fun j hj => absurd hj (Nat.not_lt_zero j)⟩ (Nat.zero_le _) (fun j hj => absurd hj (Nat.not_lt_zero j))
    refine ⟨s', e1.trans ?_, f1⟩
    have e0 : (evR L C p q (lwE L i - lwB L i) (lwB L i) v00).2 = 0 := w1.1.symm
    rw [mh_end (x := 0) (by omega) (by omega), holdsF]
    simp [e0]
  · obtain ⟨s', e1, f1, a1, w1⟩ := mh_run (g := g) (l := l) (r := r) (L := L) (C := C) (p := p) (q := q) (k271 := p12_holdsLine_J271) hp hq (show i < 12 by omega) v2 (lwE L i - lwB L i) gF (lwB L i) s (fun _ => false, 0) h' v00 hM he (by omega) (gF_gt (by omega)) hc t1 ⟨rfl, fun j hj => absurd hj (Nat.not_lt_zero j)⟩ (Nat.zero_le _) (fun j hj => absurd hj (Nat.not_lt_zero j))
    refine ⟨s', e1.trans ?_, f1⟩
    have e0 : (evR L C p q (lwE L i - lwB L i) (lwB L i) v00).2 = 1 := w1.1.symm.trans t2
    rw [mh_end (x := (evR L C p q (lwE L i - lwB L i) (lwB L i) v00).1 0) (by omega) (fun h0 => a1 0 h0), holdsF]
theorem LMs.fr {s s' : tS} {P : Nat → Prop} (h : LMs s L) (hf : Fr P s s') (hP : ∀ o, P o → o ≠ 288) : LMs s' L := by
  show LMw (s' 288) L
  rw [hf 288 (fun hp => hP _ hp rfl)]
  exact h
theorem LMs.f {s s' : tS} (h : LMs s L) (hf : Fr (fun a => a = 295) s s') : LMs s' L := h.fr hf (fun o ho => by omega)
/-- what the lines of a kind add up to -/
def sumM (L : Lw) (C : Co) (p q k : Nat) : Nat → Int32
  | 0 => 0
  | n + 1 => if cntF L C p q k n = true then sumM L C p q k n + (if lwK L n = 2 then 1 else lwA L n) else sumM L C p q k n
theorem m_sum {k : Nat} (hk : k ≤ 2) (hp : p < sz C) (hq : q < sz C) (hV : VL L) : ∀ (m fuel i : Nat) (s : tS), i + m = lwC L → m < fuel → Ms s C → LMs s L →
    ∃ s', p12_sumOf_L6 fuel (ob g 287) (Int32.ofNat k) (Int32.ofNat p) (Int32.ofNat q) (sumM L C p q k i) (Int32.ofNat i) (mm g s l r) = some (sumM L C p q k (lwC L), mm g s' l r) ∧ Fr (fun a => a = 295) s s' := by
  intro m
  have hC := hV.1
  induction m with
  | zero =>
    intro fuel i s h1 h2 hM hL
    obtain ⟨n, rfl⟩ : ∃ n, fuel = n + 1 := ⟨fuel - 1, by omega⟩
    have e : i = lwC L := by omega
    subst e
    refine ⟨s, ?_, Fr.refl⟩
    have w2 : aldI (mm g s l r) (ob g 288) 20 2 = some (s 288 2) := w_ald (k := 2) (by decide)
    have w445 : aldI (mm g s l r) (ob g 288) 20 445 = some (s 288 445) := w_ald (k := 445) (by decide)
    rw [p12_sumOf_L6]
    simp only [w_R1, Option.bind_some, w2, hL.1, ib_1]
    by_cases hH : lwH L = true
    · simp only [hH, if_true, w445, hL.2.1 hH, Option.bind_some, Int32.lt_irrefl, if_false, p12_sumOf_J83, p12_sumOf_J77, p12_sumOf]
    · simp only [hH, if_false, p12_sumOf_J83, p12_sumOf_J77, p12_sumOf]
      simp
  | succ m ih =>
    intro fuel i s h1 h2 hM hL
    obtain ⟨n, rfl⟩ : ∃ n, fuel = n + 1 := ⟨fuel - 1, by omega⟩
    have hi : i < lwC L := by omega
    have hH : lwH L = true := by
      cases hH : lwH L with
      | true => rfl
      | false => have := hV.2.1 hH; omega
    have w2 : aldI (mm g s l r) (ob g 288) 20 2 = some (s 288 2) := w_ald (k := 2) (by decide)
    have w445 : aldI (mm g s l r) (ob g 288) 20 445 = some (s 288 445) := w_ald (k := 445) (by decide)
    have c1 : Int32.ofNat i < Int32.ofNat (lwC L) := (i_lt (by omega) (by omega)).mpr hi
    obtain ⟨q1, q2, q3⟩ := hL
    obtain ⟨k1, k2, k3, k4, k5⟩ := q3 i hi
    have hv := hV.2.2 i hi
    have ck : (Int32.ofNat (lwK L i) = Int32.ofNat k) = (lwK L i = k) := propext (i_eq (by omega) (by omega))
    rw [p12_sumOf_L6]
    simp only [w_R1, Option.bind_some, w2, q1, ib_1, hH, if_true, w445, q2 hH, c1, e446', w_ald (show 446 + 4 * i < 2143 by omega), k1, ck]
    by_cases ek : lwK L i = k
    · obtain ⟨s1, e1, f1⟩ := mh_holds (g := g) (l := l) (r := r) hM hp hq ⟨q1, q2, q3⟩ hV hi
      have q288 : s1 288 = s 288 := f1 288 (by decide)
      have w1' : aldI (mm g s1 l r) (ob g 288) 20 (Int32.ofNat (446 + 4 * i + 1)) = some (s 288 (446 + 4 * i + 1)) := by rw [w_ald (by omega), q288]
      obtain ⟨s2, e2, f2⟩ := ih n (i + 1) s1 (by omega) (by omega) (hM.f f1) (LMs.f ⟨q1, q2, q3⟩ f1)
      refine ⟨s2, ?_, f1.trans f2⟩
      simp only [ek, if_true, e1, Option.bind_some, ib_z]
      cases hh : holdsF L C p q i with
      | true =>
        have s0 : sumM L C p q k (i + 1) = sumM L C p q k i + (if lwK L i = 2 then 1 else lwA L i) := by
          show (if cntF L C p q k i = true then _ else _) = _
          rw [if_pos]
          rw [cntF, decide_eq_true ek, hh]
          rfl
        rw [s0] at e2
        simp only [Bool.true_eq_false, if_false, w_R1, Option.bind_some, i_add1, w1', k2, p12_sumOf_J83, p12_sumOf_J77, p12_sumOf, e2]
      | false =>
        have s0 : sumM L C p q k (i + 1) = sumM L C p q k i := by
          show (if cntF L C p q k i = true then _ else _) = _
          rw [if_neg]
          rw [cntF, hh, Bool.and_false]
          decide
        rw [s0] at e2
        simp only [if_true, p12_sumOf_J83, p12_sumOf_J77, p12_sumOf, i_add1, e2]
    · have s0 : sumM L C p q k (i + 1) = sumM L C p q k i := by
        show (if cntF L C p q k i = true then _ else _) = _
        rw [if_neg]
        rw [cntF, decide_eq_false ek, Bool.false_and]
        decide
      obtain ⟨s2, e2, f2⟩ := ih n (i + 1) s (by omega) (by omega) hM ⟨q1, q2, q3⟩
      refine ⟨s2, ?_, f2⟩
      rw [s0] at e2
      simp only [ek, if_false, p12_sumOf_J83, p12_sumOf_J77, p12_sumOf, i_add1, e2]
theorem sum_eq {k : Nat} (hk : k ≤ 1) {z : Int32} : ∀ n, z + sumM L C p q k n = sumF L C p q k z n := by
  intro n
  induction n with
  | zero => exact Int32.add_zero z
  | succ n ih =>
    simp only [sumM, sumF]
    by_cases e : cntF L C p q k n = true
    · have e2 : lwK L n = k := by
        have := (Bool.and_eq_true _ _).mp e
        exact of_decide_eq_true this.1
      have e3 : ¬ lwK L n = 2 := by omega
      simp only [e, if_true, e3, if_false]
      rw [← ih, Int32.add_assoc]
    · simp only [e, if_false]
      exact ih
theorem calm_sum : ∀ n, n ≤ 12 → ∃ m, m ≤ n ∧ sumM L C p q 2 n = Int32.ofNat m ∧ (0 < m ↔ calmF L C p q n = true) := by
  intro n
  induction n with
  | zero => intro _; exact ⟨0, Nat.le_refl _, rfl, by simp [calmF]⟩
  | succ n ih =>
    intro hn
    obtain ⟨m, h1, h2, h3⟩ := ih (by omega)
    by_cases e : cntF L C p q 2 n = true
    · have e2 : lwK L n = 2 := by
        have := (Bool.and_eq_true _ _).mp e
        exact of_decide_eq_true this.1
      refine ⟨m + 1, by omega, ?_, ?_⟩
      · simp only [sumM, e, if_true, e2, h2, i_succ]
      · simp only [calmF, e, Bool.or_true]
        simp
    · refine ⟨m, by omega, ?_, ?_⟩
      · simp only [sumM, e, h2]
        simp
      · simp only [calmF]
        rw [h3]
        simp [e]
/-- what a word weighs, in the reference -/
theorem m_wt {s : tS} {y : Bool} (hM : Ms s C) (hL : LMs s L) (hV : VL L) (hr : 0 < (C.1 4).toInt) (hp : p < sz C) (hq : q < sz C) : ∃ s', p12_weighsOf (ob g 287) (Int32.ofNat p) (Int32.ofNat q) (ib y) (mm g s l r) = some (wtF L C p q y, mm g s' l r) ∧ Fr (fun a => a = 295) s s' := by
  have hC := hV.1
  obtain ⟨s1, e1, f1⟩ := m_sum (g := g) (l := l) (r := r) (k := 2) (by omega) hp hq hV (lwC L) gF 0 s (by omega) (gF_gt (by omega)) hM hL
  have e1' : p12_sumOf (ob g 287) 2 (Int32.ofNat p) (Int32.ofNat q) (mm g s l r) = some (sumM L C p q 2 (lwC L), mm g s1 l r) := by
    rw [p12_sumOf, w_gd]
    exact e1
  obtain ⟨m, c1, c2, c3⟩ := calm_sum (L := L) (C := C) (p := p) (q := q) (lwC L) hC
  have c4 : ((0 : Int32) < Int32.ofNat m) = (0 < m) := propext (i_lt (a := 0) (by omega) (by omega))
  rw [p12_weighsOf, w_gd]
  simp only [e1', Option.bind_some, c2, c4]
  by_cases hm : 0 < m
  · refine ⟨s1, ?_, f1⟩
    rw [if_pos hm, wtF, if_pos (c3.mp hm)]
  · have hM1 := hM.f f1
    have key : ∀ y : Bool, ∃ s', p12_weighsOf_J29 (ob g 287) (Int32.ofNat p) (Int32.ofNat q) (C.1 6) (ob g 287) (Int32.ofNat (yn y)) (mm g s1 l r) = some (wtF L C p q y, mm g s' l r) ∧ Fr (fun a => a = 295) s1 s' := by
      intro y
      have hy : yn y ≤ 1 := by cases y <;> decide
      obtain ⟨s2, e2, f2⟩ := m_sum (g := g) (l := l) (r := r) (k := yn y) (by omega) hp hq hV (lwC L) gF 0 s1 (by omega) (gF_gt (by omega)) hM1 (hL.f f1)
      have e2' : p12_sumOf (ob g 287) (Int32.ofNat (yn y)) (Int32.ofNat p) (Int32.ofNat q) (mm g s1 l r) = some (sumM L C p q (yn y) (lwC L), mm g s2 l r) := by
        rw [p12_sumOf, w_gd]
        exact e2
      refine ⟨s2, ?_, f2⟩
      have hcc : ¬ calmF L C p q (lwC L) = true := fun hh => hm (c3.mpr hh)
      rw [p12_weighsOf_J29]
      simp only [e2', Option.bind_some, w_R1, m_4 (hM1.f f2), remI_ne (i_nz hr), sum_eq hy, wtF, hcc, if_false]
      rfl
    obtain ⟨s2, e2, f2⟩ := key y
    refine ⟨s2, ?_, f1.trans f2⟩
    simp only [hm, if_false, w_R1, Option.bind_some, m_6 hM1]
    cases y with
    | false =>
      simp only [ib_f, if_true]
      exact e2
    | true =>
      simp only [ib_t, one_z, if_false]
      exact e2
end
