/-! the reference's world -/
theorem k287 : lK 287 = 12 := by decide +kernel
theorem k288 : lK 288 = 20 := by decide +kernel
theorem n288 : lNn 288 = 2143 := by decide +kernel
section
variable {g : Nat} {s : tS} {l : tL} {r : Nat → Nat}
theorem w_gd {β : Type} {T : Option β} : gd (mm g s l r) (ob g 287) 12 T = T := mm_gd k287
theorem w_getI {k : Nat} : getI (mm g s l r) (ob g 287) 12 k = some (s 287 k) := mm_getI k287
theorem w_putI {k : Nat} {v : Int32} : putI (mm g s l r) (ob g 287) 12 k v = some (mm g (up2 s 287 k v) l r) := mm_putI k287
theorem w_R1 : getR (mm g s l r) (ob g 287) 12 1 = some (ob g 288) := mm_getR k287 (by decide +kernel) (by decide)
theorem w_ald {k : Nat} (hk : k < 2143) : aldI (mm g s l r) (ob g 288) 20 (Int32.ofNat k) = some (s 288 k) := mm_aldI k288 n288 hk (by decide)
theorem w_ast {k : Nat} {v : Int32} (hk : k < 2143) : astI (mm g s l r) (ob g 288) (Int32.ofNat k) v = some (mm g (up2 s 288 k v) l r) := mm_astI k288 n288 hk (by decide)
theorem w_0 : aldI (mm g s l r) (ob g 288) 20 0 = some (s 288 0) := w_ald (k := 0) (by decide)
theorem w_1 : aldI (mm g s l r) (ob g 288) 20 1 = some (s 288 1) := w_ald (k := 1) (by decide)
theorem w_2 : aldI (mm g s l r) (ob g 288) 20 2 = some (s 288 2) := w_ald (k := 2) (by decide)
theorem w_3 : aldI (mm g s l r) (ob g 288) 20 3 = some (s 288 3) := w_ald (k := 3) (by decide)
theorem w_4 : aldI (mm g s l r) (ob g 288) 20 4 = some (s 288 4) := w_ald (k := 4) (by decide)
theorem w_5 : aldI (mm g s l r) (ob g 288) 20 5 = some (s 288 5) := w_ald (k := 5) (by decide)
theorem w_6 : aldI (mm g s l r) (ob g 288) 20 6 = some (s 288 6) := w_ald (k := 6) (by decide)
theorem w_7 : aldI (mm g s l r) (ob g 288) 20 7 = some (s 288 7) := w_ald (k := 7) (by decide)
theorem w_8 : aldI (mm g s l r) (ob g 288) 20 8 = some (s 288 8) := w_ald (k := 8) (by decide)
theorem w_at {i j : Nat} : (9 : Int32) + 17 * Int32.ofNat i + Int32.ofNat j = Int32.ofNat (9 + 17 * i + j) := by
  rw [← i_add, ← i_add, ← i_mul]
  rfl
theorem tm_people : p12_people (ob g 287) (mm g s l r) = some (s 288 0) := by
  simp only [p12_people, w_gd, w_R1, Option.bind_some, w_0]
theorem tm_of {i j : Nat} (hi : i < 8) (hj : j < 17) : p12_of (ob g 287) (Int32.ofNat i) (Int32.ofNat j) (mm g s l r) = some (s 288 (9 + 17 * i + j)) := by
  simp only [p12_of, w_gd, w_R1, p12_at, Option.bind_some, w_at, w_ald (k := 9 + 17 * i + j) (by omega)]
theorem tm_of0 {i : Nat} (hi : i < 8) : p12_of (ob g 287) (Int32.ofNat i) 0 (mm g s l r) = some (s 288 (9 + 17 * i + 0)) := tm_of (j := 0) hi (by decide)
theorem tm_of1 {i : Nat} (hi : i < 8) : p12_of (ob g 287) (Int32.ofNat i) 1 (mm g s l r) = some (s 288 (9 + 17 * i + 1)) := tm_of (j := 1) hi (by decide)
theorem tm_of2 {i : Nat} (hi : i < 8) : p12_of (ob g 287) (Int32.ofNat i) 2 (mm g s l r) = some (s 288 (9 + 17 * i + 2)) := tm_of (j := 2) hi (by decide)
theorem tm_of3 {i : Nat} (hi : i < 8) : p12_of (ob g 287) (Int32.ofNat i) 3 (mm g s l r) = some (s 288 (9 + 17 * i + 3)) := tm_of (j := 3) hi (by decide)
theorem tm_of4 {i : Nat} (hi : i < 8) : p12_of (ob g 287) (Int32.ofNat i) 4 (mm g s l r) = some (s 288 (9 + 17 * i + 4)) := tm_of (j := 4) hi (by decide)
theorem tm_of5 {i : Nat} (hi : i < 8) : p12_of (ob g 287) (Int32.ofNat i) 5 (mm g s l r) = some (s 288 (9 + 17 * i + 5)) := tm_of (j := 5) hi (by decide)
theorem tm_of6 {i : Nat} (hi : i < 8) : p12_of (ob g 287) (Int32.ofNat i) 6 (mm g s l r) = some (s 288 (9 + 17 * i + 6)) := tm_of (j := 6) hi (by decide)
theorem tm_of7 {i : Nat} (hi : i < 8) : p12_of (ob g 287) (Int32.ofNat i) 7 (mm g s l r) = some (s 288 (9 + 17 * i + 7)) := tm_of (j := 7) hi (by decide)
theorem tm_of8 {i : Nat} (hi : i < 8) : p12_of (ob g 287) (Int32.ofNat i) 8 (mm g s l r) = some (s 288 (9 + 17 * i + 8)) := tm_of (j := 8) hi (by decide)
theorem tm_ofL {i j : Nat} (hi : i < 8) (hj : j < 8) : p12_of (ob g 287) (Int32.ofNat i) (9 + Int32.ofNat j) (mm g s l r) = some (s 288 (9 + 17 * i + (9 + j))) := by
  have e : (9 : Int32) + Int32.ofNat j = Int32.ofNat (9 + j) := by rw [← i_add]; rfl
  rw [e]
  exact tm_of hi (by omega)
end
/-! the first spec functions -/
def bt (i : Nat) : Int32 := (1 : Int32) <<< (Int32.ofNat i &&& 31)
def sp_crib (F : Fm) : Int32 := iter (fun i x => if F.2.1 i 0 < F.1 5 then x ||| bt i else x) (szF F) 0
section
variable {g : Nat} {s : tS} {l : tL} {r : Nat → Nat} {b : Nat}
theorem tc_inCrib (hb : b ∈ fBL) (hw : WfC s b) : p2_inCrib (ob g b) (mm g s l r) = some (sp_crib (FC s b)) := by
  rw [p2_inCrib, f_gd hb]
  refine it_up (fun n a i => p2_inCrib_L4 (mm g s l r) n (ob g b) a i) (szC s b) _ some ?_ ?_ gF 0 (gF_gt (by have := hw.2.1; omega))
  · intro n i a hi
    have hi8 : i < 8 := by have := hw.2.1; omega
    have hlt : Int32.ofNat i < s b 4 := by rw [hw.1]; exact (i_lt (by omega) (by have := hw.2.1; omega)).mpr hi
    simp only [p2_inCrib_L4, p2_inCrib_J33, f_getI hb, hlt, if_true, Option.bind_some, f_at hb hi8, f_pI hb hi8, FC_p hi (show 0 < 9 by decide), FC_g, glC, i_succ, bt]
    by_cases h : s (b + 6 + i) 0 < s b 6 <;> simp [h]
  · intro n a
    have hlt : ¬ Int32.ofNat (szC s b) < s b 4 := by rw [← hw.1]; exact Int32.lt_irrefl _
    simp only [p2_inCrib_L4, f_getI hb, Option.bind_some, hlt, if_false]
theorem tm_cribOnes (hw : WfM s) : p12_cribOnes (ob g 287) (mm g s l r) = some (sp_crib (FM s)) := by
  rw [p12_cribOnes, w_gd]
  refine it_up (fun n a i => p12_cribOnes_L4 (mm g s l r) n (ob g 287) a i) (i2n (s 288 0)) _ some ?_ ?_ gF 0 (gF_gt (by have := hw.2.1; omega))
  · intro n i a hi
    have hi8 : i < 8 := by have := hw.2.1; omega
    have hlt : Int32.ofNat i < s 288 0 := by rw [hw.1]; exact (i_lt (by omega) (by have := hw.2.1; omega)).mpr hi
    simp only [p12_cribOnes_L4, p12_cribOnes_J35, tm_people, hlt, if_true, Option.bind_some, tm_of0 hi8, w_R1, w_5, FM_p hi (show 0 < 17 by decide), FM_g (show 5 < 9 ∧ 5 ≠ 2 by decide), i_succ, bt]
    by_cases h : s 288 (9 + 17 * i + 0) < s 288 5 <;> simp [h]
  · intro n a
    have hlt : ¬ Int32.ofNat (i2n (s 288 0)) < s 288 0 := by rw [← hw.1]; exact Int32.lt_irrefl _
    simp only [p12_cribOnes_L4, tm_people, Option.bind_some, hlt, if_false]
end
