/-! questions that change nothing: of all -/
theorem k0 : lK 0 = 11 := by decide +kernel
theorem k118 : lK 118 = 10 := by decide +kernel
section
variable {g : Nat} {s : tS} {l : tL} {r : Nat → Nat} {b : Nat} {C : Co}
theorem a_gd {β : Type} {T : Option β} : gd (mm g s l r) (ob g 0) 11 T = T := mm_gd k0
theorem a_I {k : Nat} : getI (mm g s l r) (ob g 0) 11 k = some (s 0 k) := mm_getI k0
theorem a_P {k : Nat} {v : Int32} : putI (mm g s l r) (ob g 0) 11 k v = some (mm g (up2 s 0 k v) l r) := mm_putI k0
theorem a_R0 : getR (mm g s l r) (ob g 0) 11 0 = some (ob g 1) := mm_getR k0 (by decide +kernel) (by decide)
theorem a_R3 : getR (mm g s l r) (ob g 0) 11 3 = some (ob g 2) := mm_getR k0 (by decide +kernel) (by decide)
theorem a_R4 : getR (mm g s l r) (ob g 0) 11 4 = some (ob g 16) := mm_getR k0 (by decide +kernel) (by decide)
theorem a_R5 : getR (mm g s l r) (ob g 0) 11 5 = some (ob g 30) := mm_getR k0 (by decide +kernel) (by decide)
theorem a_R6 : getR (mm g s l r) (ob g 0) 11 6 = some (ob g 39) := mm_getR k0 (by decide +kernel) (by decide)
theorem a_R7 : getR (mm g s l r) (ob g 0) 11 7 = some (ob g 48) := mm_getR k0 (by decide +kernel) (by decide)
theorem a_R8 : getR (mm g s l r) (ob g 0) 11 8 = some (ob g 52) := mm_getR k0 (by decide +kernel) (by decide)
theorem a_R9 : getR (mm g s l r) (ob g 0) 11 9 = some (ob g 56) := mm_getR k0 (by decide +kernel) (by decide)
theorem a_R11 : getR (mm g s l r) (ob g 0) 11 11 = some (ob g 57) := mm_getR k0 (by decide +kernel) (by decide)
theorem a_R12 : getR (mm g s l r) (ob g 0) 11 12 = some (ob g 71) := mm_getR k0 (by decide +kernel) (by decide)
theorem a_R14 : getR (mm g s l r) (ob g 0) 11 14 = some (ob g 80) := mm_getR k0 (by decide +kernel) (by decide)
theorem a_R15 : getR (mm g s l r) (ob g 0) 11 15 = some (ob g 95) := mm_getR k0 (by decide +kernel) (by decide)
theorem a_R16 : getR (mm g s l r) (ob g 0) 11 16 = some (ob g 114) := mm_getR k0 (by decide +kernel) (by decide)
theorem a_R17 : getR (mm g s l r) (ob g 0) 11 17 = some (ob g 118) := mm_getR k0 (by decide +kernel) (by decide)
theorem y_gd {β : Type} {T : Option β} : gd (mm g s l r) (ob g 118) 10 T = T := mm_gd k118
theorem y_R0 : getR (mm g s l r) (ob g 118) 10 0 = some (ob g 2) := mm_getR k118 (by decide +kernel) (by decide)
theorem rs_thr {v : Int32} : RS s (up2 s 287 0 v) := RS.up (by unfold scr; omega) (by omega)
theorem rs_thr2 {v w : Int32} : RS s (up2 (up2 s 287 0 v) 287 0 w) := rs_thr.trans rs_thr
theorem c_lent (h : Is s b C) {i j : Nat} (hi : i < sz C) (hj : j < sz C) : p2_lentBy (ob g b) (Int32.ofNat i) (Int32.ofNat j) (mm g s l r) = some (C.2 i (9 + j)) := by
  have hi8 := zc_8 h.2.1 hi
  have hj8 := zc_8 h.2.1 hj
  have e : Int32.ofNat i * 8 + Int32.ofNat j = Int32.ofNat (8 * i + j) := by
    rw [show (8 : Int32) = Int32.ofNat 8 from rfl, i_mul, i_add, Nat.mul_comm]
  have v : s (b + 3) (8 * i + j) = C.2 i (9 + j) := h.2.2.2.2.1 i j hi hj8
  simp only [p2_lentBy, c_gd h, c_has h, inR_of h.2.1 hi, inR_of h.2.1 hj, ib_t, obs, one_z, if_false, f_R2 h.1, e, f_loan h.1 (show 8 * i + j < 64 by omega), v, p2_lentBy_J31, p2_lentBy_J30, p2_lentBy]
/-- a question of all: both answer by what the family is -/
theorem dir1_of {P : mMem → Option Int32} {Q : mMem → Option (Int32 × mMem)} {sp : Co → Int32} (hP : ∀ (s : tS) (l : tL) (r : Nat → Nat) (C : Co), Is s 2 C → VC C → P (mm g s l r) = some (sp C)) (hQ : ∀ (s : tS) (l : tL) (r : Nat → Nat) (C : Co), Ms s C → VC C → Q (mm g s l r) = some (sp C, mm g (up2 s 287 0 0) l r)) : Dir1 g P Q := by
  intro s l r hI
  obtain ⟨C, G, L, n, p, ⟨⟨h1, h2, h3, h4, h5, h6⟩, hL⟩, hT⟩ := id hI
  exact ⟨sp C, up2 s 287 0 0, hP s l r C h1 h5, hQ s l r C h3 h5, hI.rs rs_thr⟩
/-- the best of all by an order -/
def bestF (lt : Nat → Nat → Bool) (i : Nat) (x : Option Nat) : Option Nat := match x with
  | none => some i
  | some j => if lt i j = true then some i else some j
def encB (x : Option Nat) : Int32 := match x with
  | none => -1
  | some j => Int32.ofNat j
theorem best_loop {β : Type} (L : Nat → Int32 → Int32 → β) (N : Nat) (lt : Nat → Nat → Bool) (K : Int32 → β) (hN : N < gF) (h1 : ∀ n i, i < N → L (n + 1) (-1) (Int32.ofNat i) = L n (Int32.ofNat i) (Int32.ofNat (i + 1))) (h2 : ∀ n i j, i < N → j < N → L (n + 1) (Int32.ofNat j) (Int32.ofNat i) = L n (if lt i j = true then Int32.ofNat i else Int32.ofNat j) (Int32.ofNat (i + 1))) (he : ∀ n a, L (n + 1) a (Int32.ofNat N) = K a) : L gF (-1) 0 = K (encB (itF (bestF lt) N 0 none)) := it_sf (L := L) (R := fun i a x => a = encB x ∧ ∀ j, x = some j → j < N) (f := bestF lt) (Q := fun B x => B = K (encB x)) (N := N) (fun n i a x hi hR => by
    obtain ⟨h3, h4⟩ := hR
    cases x with
    | none =>
      refine ⟨Int32.ofNat i, ⟨rfl, fun j hj => by have := Option.some.inj hj; omega⟩, ?_⟩
      rw [h3]
      exact h1 n i hi
    | some j =>
      have hj := h4 j rfl
      rcases Bool.eq_false_or_eq_true (lt i j) with e | e
      · refine ⟨Int32.ofNat i, ⟨by rw [bestF, if_pos e]; rfl, fun k hk => by rw [bestF, if_pos e] at hk; have := Option.some.inj hk; omega⟩, ?_⟩
        rw [h3]
        have := h2 n i j hi hj
        rw [if_pos e] at this
        exact this
      · have e' : ¬ lt i j = true := by rw [e]; decide
        refine ⟨Int32.ofNat j, ⟨by rw [bestF, if_neg e']; rfl, fun k hk => by rw [bestF, if_neg e'] at hk; have := Option.some.inj hk; omega⟩, ?_⟩
        rw [h3]
        have := h2 n i j hi hj
        rw [if_neg e'] at this
        exact this) (fun n a x hR => by rw [he, hR.1]) N gF 0 (-1) none (by omega) hN ⟨rfl, fun j hj => by cases hj⟩
theorem sz_gF (h : Zc C) : sz C < gF := gF_gt (by have := h.2; omega)
theorem nm1 {j : Nat} (h : j < 8) : (Int32.ofNat j = -1) = False := eq_false (fun e => by
  have := congrArg Int32.toInt e
  rw [i_toInt (by omega)] at this
  have z : (-1 : Int32).toInt = -1 := rfl
  omega)
theorem or0 {x : Int32} : x ||| 0 = x := by
  apply Int32.toBitVec_inj.mp
  rw [Int32.toBitVec_or]
  exact BitVec.or_zero
/-! RICH, OLDEST, YOUNGEST -/
def sp_rich (C : Co) : Int32 := encB (itF (bestF fun i j => decide (C.2 j 7 < C.2 i 7)) (sz C) 0 none)
theorem tc_rich (h : Is s 2 C) : p11_rich (ob g 0) (mm g s l r) = some (sp_rich C) := by
  rw [p11_rich, a_gd]
  refine best_loop (fun n a i => p11_rich_L4 (mm g s l r) n (ob g 0) a i) (sz C) _ some (sz_gF h.2.1) ?_ ?_ ?_
  · intro n i hi
    simp only [p11_rich_L4, a_R3, obs, c_n h, zc_yes h.2.1 hi, if_true, eq_self, p11_rich_J47, p11_rich_J45, p11_rich, i_succ]
  · intro n i j hi hj
    simp only [p11_rich_L4, a_R3, obs, c_n h, zc_yes h.2.1 hi, if_true, nm1 (zc_8 h.2.1 hj), if_false, c_at h hi, c_at h hj, c_p h hi (show 7 < 9 by decide), c_p h hj (show 7 < 9 by decide), p11_rich_J47, p11_rich_J45, p11_rich, i_succ]
    by_cases e : C.2 j 7 < C.2 i 7 <;> simp [e]
  · intro n a
    simp only [p11_rich_L4, a_R3, obs, c_n h, zc_no h.2.1, if_false]
theorem tm_rich (h : Ms s C) : p12_rich (ob g 287) (mm g s l r) = some (sp_rich C, mm g (up2 s 287 0 0) l r) := by
  rw [p12_rich, w_gd, w_putI, obs]
  have hM := h.up (o := 287) (k := 0) (v := 0) (by decide)
  refine best_loop (fun n a i => p12_rich_L9 n (ob g 287) a i (mm g (up2 s 287 0 0) l r)) (sz C) _ (fun a => some (a, mm g (up2 s 287 0 0) l r)) (sz_gF h.1) ?_ ?_ ?_
  · intro n i hi
    simp only [p12_rich_L9, m_people hM, obs, zc_yes h.1 hi, if_true, eq_self, p12_rich_J41, p12_rich_J39, p12_rich, i_succ]
  · intro n i j hi hj
    simp only [p12_rich_L9, m_people hM, obs, zc_yes h.1 hi, if_true, nm1 (zc_8 h.1 hj), if_false, m_of7 hM hi, m_of7 hM hj, p12_rich_J41, p12_rich_J39, p12_rich, i_succ]
    by_cases e : C.2 j 7 < C.2 i 7 <;> simp [e]
  · intro n a
    simp only [p12_rich_L9, m_people hM, obs, zc_no h.1, if_false]
theorem op_rich : Dir1 g (fun M => p11_rich (ob g 0) M) (fun M => p12_rich (ob g 287) M) := dir1_of (fun _ _ _ _ h _ => tc_rich h) (fun _ _ _ _ h _ => tm_rich h)
def sp_old (C : Co) : Int32 := encB (itF (bestF fun i j => decide (C.2 j 0 < C.2 i 0)) (sz C) 0 none)
def sp_young (C : Co) : Int32 := encB (itF (bestF fun i j => decide (C.2 i 0 < C.2 j 0)) (sz C) 0 none)
theorem tm_oldest (h : Ms s C) : p12_oldest (ob g 287) (mm g s l r) = some (sp_old C, mm g (up2 s 287 0 0) l r) := by
  rw [p12_oldest, w_gd, w_putI, obs]
  have hM := h.up (o := 287) (k := 0) (v := 0) (by decide)
  refine best_loop (fun n a i => p12_oldest_L9 n (ob g 287) a i (mm g (up2 s 287 0 0) l r)) (sz C) _ (fun a => some (a, mm g (up2 s 287 0 0) l r)) (sz_gF h.1) ?_ ?_ ?_
  · intro n i hi
    simp only [p12_oldest_L9, m_people hM, obs, zc_yes h.1 hi, if_true, eq_self, p12_oldest_J39, p12_oldest_J37, p12_oldest, i_succ]
  · intro n i j hi hj
    simp only [p12_oldest_L9, m_people hM, obs, zc_yes h.1 hi, if_true, nm1 (zc_8 h.1 hj), if_false, m_of0 hM hi, m_of0 hM hj, p12_oldest_J39, p12_oldest_J37, p12_oldest, i_succ]
    by_cases e : C.2 j 0 < C.2 i 0 <;> simp [e]
  · intro n a
    simp only [p12_oldest_L9, m_people hM, obs, zc_no h.1, if_false]
theorem tm_youngest (h : Ms s C) : p12_youngest (ob g 287) (mm g s l r) = some (sp_young C, mm g (up2 s 287 0 0) l r) := by
  rw [p12_youngest, w_gd, w_putI, obs]
  have hM := h.up (o := 287) (k := 0) (v := 0) (by decide)
  refine best_loop (fun n a i => p12_youngest_L9 n (ob g 287) a i (mm g (up2 s 287 0 0) l r)) (sz C) _ (fun a => some (a, mm g (up2 s 287 0 0) l r)) (sz_gF h.1) ?_ ?_ ?_
  · intro n i hi
    simp only [p12_youngest_L9, m_people hM, obs, zc_yes h.1 hi, if_true, eq_self, p12_youngest_J39, p12_youngest_J37, p12_youngest, i_succ]
  · intro n i j hi hj
    simp only [p12_youngest_L9, m_people hM, obs, zc_yes h.1 hi, if_true, nm1 (zc_8 h.1 hj), if_false, m_of0 hM hi, m_of0 hM hj, p12_youngest_J39, p12_youngest_J37, p12_youngest, i_succ]
    by_cases e : C.2 i 0 < C.2 j 0 <;> simp [e]
  · intro n a
    simp only [p12_youngest_L9, m_people hM, obs, zc_no h.1, if_false]
theorem tc_furthest (h : Is s 2 C) {sg : Int32} {lt : Nat → Nat → Bool} (hlt : ∀ i j, i < sz C → j < sz C → (sg * C.2 j 0 < sg * C.2 i 0) = (lt i j = true)) : p11_furthest (ob g 0) sg (mm g s l r) = some (encB (itF (bestF lt) (sz C) 0 none)) := by
  rw [p11_furthest, a_gd]
  refine best_loop (fun n a i => p11_furthest_L4 (mm g s l r) n (ob g 0) sg a i) (sz C) _ some (sz_gF h.2.1) ?_ ?_ ?_
  · intro n i hi
    simp only [p11_furthest_L4, a_R3, obs, c_n h, zc_yes h.2.1 hi, if_true, eq_self, p11_furthest_J51, p11_furthest_J49, p11_furthest, i_succ]
  · intro n i j hi hj
    simp only [p11_furthest_L4, a_R3, obs, c_n h, zc_yes h.2.1 hi, if_true, nm1 (zc_8 h.2.1 hj), if_false, c_at h hi, c_at h hj, c_p h hi (show 0 < 9 by decide), c_p h hj (show 0 < 9 by decide), hlt i j hi hj, p11_furthest_J51, p11_furthest_J49, p11_furthest, i_succ]
    by_cases e : lt i j = true <;> simp [e]
  · intro n a
    simp only [p11_furthest_L4, a_R3, obs, c_n h, zc_no h.2.1, if_false]
theorem op_oldest : Dir1 g (fun M => p11_oldest (ob g 0) M) (fun M => p12_oldest (ob g 287) M) := dir1_of (sp := sp_old) (fun s l r C h _ => by
  simp only [p11_oldest, a_gd]
  rw [tc_furthest (lt := fun i j => decide (C.2 j 0 < C.2 i 0)) h (fun i j hi hj => by rw [Int32.one_mul, Int32.one_mul, decide_eq_true_eq]), obs]
  rfl) (fun _ _ _ _ h _ => tm_oldest h)
theorem op_youngest : Dir1 g (fun M => p11_youngest (ob g 0) M) (fun M => p12_youngest (ob g 287) M) := dir1_of (sp := sp_young) (fun s l r C h hC => by
  simp only [p11_youngest, a_gd]
  rw [tc_furthest (lt := fun i j => decide (C.2 i 0 < C.2 j 0)) h (fun i j hi hj => by
    have hr := vc_r hC
    have ha := (hC.2.2.2.2.2.2 i hi).1
    have hb := (hC.2.2.2.2.2.2 j hj).1
    have m1 : (-1 : Int32).toInt = -1 := rfl
    have e1 : (-1 * C.2 i 0).toInt = -(C.2 i 0).toInt := by rw [i_tmul] <;> rw [m1] <;> omega
    have e2 : (-1 * C.2 j 0).toInt = -(C.2 j 0).toInt := by rw [i_tmul] <;> rw [m1] <;> omega
    rw [decide_eq_true_eq, i_ltI, i_ltI, e1, e2]
    exact propext (by omega)), obs]
  rfl) (fun _ _ _ _ h _ => tm_youngest h)
/-! CRIB, FREE -/
def sp_cr (C : Co) : Int32 := iter (fun i x => if C.2 i 0 < C.1 5 then x ||| bt i else x) (sz C) 0
theorem tc_crib (h : Is s b C) : p2_inCrib (ob g b) (mm g s l r) = some (sp_cr C) := by
  rw [p2_inCrib, c_gd h]
  refine it_up (fun n a i => p2_inCrib_L4 (mm g s l r) n (ob g b) a i) (sz C) _ some ?_ ?_ gF 0 (sz_gF h.2.1)
  · intro n i a hi
    simp only [p2_inCrib_L4, obs, c_n h, zc_yes h.2.1 hi, if_true, c_at h hi, c_p h hi (show 0 < 9 by decide), c_ripe h, p2_inCrib_J33, p2_inCrib, i_succ, bt]
    by_cases e : C.2 i 0 < C.1 5 <;> simp [e]
  · intro n a
    simp only [p2_inCrib_L4, obs, c_n h, zc_no h.2.1, if_false]
theorem tm_crib (h : Ms s C) : p12_cribOnes (ob g 287) (mm g s l r) = some (sp_cr C) := by
  rw [p12_cribOnes, w_gd]
  refine it_up (fun n a i => p12_cribOnes_L4 (mm g s l r) n (ob g 287) a i) (sz C) _ some ?_ ?_ gF 0 (sz_gF h.1)
  · intro n i a hi
    simp only [p12_cribOnes_L4, obs, m_people h, zc_yes h.1 hi, if_true, m_of0 h hi, w_R1, m_5 h, p12_cribOnes_J35, p12_cribOnes, i_succ, bt]
    by_cases e : C.2 i 0 < C.1 5 <;> simp [e]
  · intro n a
    simp only [p12_cribOnes_L4, obs, m_people h, zc_no h.1, if_false]
theorem op_crib : Dir1 g (fun M => p11_crib (ob g 0) M) (fun M => p12_crib (ob g 287) M) := dir1_of (sp := sp_cr) (fun s l r C h _ => by simp only [p11_crib, a_gd, a_R3, obs, tc_crib h]) (fun s l r C h _ => by
  have hM := h.up (o := 287) (k := 0) (v := 0) (by decide)
  simp only [p12_crib, w_gd, w_putI, obs, tm_crib hM])
def sp_free (C : Co) : Int32 := iter (fun i x => if C.2 i 8 = 0 then x ||| bt i else x) (sz C) 0
theorem op_free : Dir1 g (fun M => p11_free (ob g 0) M) (fun M => p12_free (ob g 287) M) := dir1_of (sp := sp_free) (fun s l r C h _ => by
  show p11_free (ob g 0) (mm g s l r) = _
  rw [p11_free, a_gd]
  refine it_up (fun n a i => p11_free_L4 (mm g s l r) n (ob g 0) a i) (sz C) _ some ?_ ?_ gF 0 (sz_gF h.2.1)
  · intro n i a hi
    simp only [p11_free_L4, a_R3, obs, c_n h, zc_yes h.2.1 hi, if_true, c_at h hi, c_p h hi (show 8 < 9 by decide), p11_free_J35, p11_free, i_succ, bt]
    by_cases e : C.2 i 8 = 0 <;> simp [e]
  · intro n a
    simp only [p11_free_L4, a_R3, obs, c_n h, zc_no h.2.1, if_false]) (fun s l r C h _ => by
  show p12_free (ob g 287) (mm g s l r) = _
  rw [p12_free, w_gd, w_putI, obs]
  have hM := h.up (o := 287) (k := 0) (v := 0) (by decide)
  refine it_up (fun n a i => p12_free_L9 n (ob g 287) a i (mm g (up2 s 287 0 0) l r)) (sz C) _ (fun a => some (a, mm g (up2 s 287 0 0) l r)) ?_ ?_ gF 0 (sz_gF h.1)
  · intro n i a hi
    simp only [p12_free_L9, obs, m_people hM, zc_yes h.1 hi, if_true, m_of8 hM hi, p12_free_J35, p12_free, i_succ, bt]
    by_cases e : C.2 i 8 = 0 <;> simp [e]
  · intro n a
    simp only [p12_free_L9, obs, m_people hM, zc_no h.1, if_false])
/-! NET -/
def sp_own (C : Co) (i : Nat) : Int32 := iter (fun j x => x + (C.2 i (9 + j) - C.2 j (9 + i))) (sz C) 0
def sp_net (C : Co) : Int32 := iter (fun i x => x + maxI 0 (sp_own C i)) (sz C) 0
theorem op_net : Dir1 g (fun M => p11_net (ob g 0) M) (fun M => p12_net (ob g 287) M) := dir1_of (sp := sp_net) (fun s l r C h _ => by
  simp only [p11_net, a_gd, a_R17, obs, p10_netDebts, y_gd]
  have key : p10_netDebts_L4 (mm g s l r) gF (ob g 118) 0 0 = some (sp_net C) := by
    refine it_up (fun n a i => p10_netDebts_L4 (mm g s l r) n (ob g 118) a i) (sz C) _ some ?_ ?_ gF 0 (sz_gF h.2.1)
    · intro n i a hi
      simp only [p10_netDebts_L4, y_R0, obs, c_n h, zc_yes h.2.1 hi, if_true]
      refine (it_up (fun m x j => p10_netDebts_L20 (mm g s l r) (p10_netDebts_J62 (mm g s l r) (p10_netDebts_L4 (mm g s l r) n)) m (ob g 118) a (Int32.ofNat i) x j) (sz C) (fun j x => x + (C.2 i (9 + j) - C.2 j (9 + i))) (fun x => p10_netDebts_J62 (mm g s l r) (p10_netDebts_L4 (mm g s l r) n) (ob g 118) a (Int32.ofNat i) x) ?_ ?_ gF 0 (sz_gF h.2.1)).trans ?_
      · intro m j x hj
        simp only [p10_netDebts_L20, y_R0, obs, c_n h, zc_yes h.2.1 hj, if_true, c_lent h hi hj, c_lent h hj hi, i_succ]
      · intro m x
        simp only [p10_netDebts_L20, y_R0, obs, c_n h, zc_no h.2.1, if_false]
      · simp only [p10_netDebts_J62, i_succ]
        rfl
    · intro n a
      simp only [p10_netDebts_L4, y_R0, obs, c_n h, zc_no h.2.1, if_false]
  rw [key, obs]) (fun s l r C h _ => by
  show p12_net (ob g 287) (mm g s l r) = _
  rw [p12_net, w_gd, w_putI, obs]
  have hM := h.up (o := 287) (k := 0) (v := 0) (by decide)
  refine it_up (fun n a i => p12_net_L9 n (ob g 287) a i (mm g (up2 s 287 0 0) l r)) (sz C) _ (fun a => some (a, mm g (up2 s 287 0 0) l r)) ?_ ?_ gF 0 (sz_gF h.1)
  · intro n i a hi
    simp only [p12_net_L9, obs, m_people hM, zc_yes h.1 hi, if_true]
    refine (it_up (fun m x j => p12_net_L22 (p12_net_J61 (p12_net_L9 n)) m (ob g 287) a (Int32.ofNat i) x j (mm g (up2 s 287 0 0) l r)) (sz C) (fun j x => x + (C.2 i (9 + j) - C.2 j (9 + i))) (fun x => p12_net_J61 (p12_net_L9 n) (ob g 287) a (Int32.ofNat i) x (mm g (up2 s 287 0 0) l r)) ?_ ?_ gF 0 (sz_gF h.1)).trans ?_
    · intro m j x hj
      simp only [p12_net_L22, obs, m_people hM, zc_yes h.1 hj, if_true, m_ofL hM hi (zc_8 h.1 hj), m_ofL hM hj (zc_8 h.1 hi), i_succ]
    · intro m x
      simp only [p12_net_L22, obs, m_people hM, zc_no h.1, if_false]
    · simp only [p12_net_J61, i_succ]
      rfl
  · intro n a
    simp only [p12_net_L9, obs, m_people hM, zc_no h.1, if_false])
/-! FAULT, SEED -/
theorem op_fault : Dir1 g (fun M => p11_fault (ob g 0) M) (fun M => p12_fault (ob g 287) M) := by
  intro s l r hI
  obtain ⟨C, G, L, n, p, hc, ht, hp, hk, ⟨-, -, -, h4⟩⟩ := id hI
  refine ⟨s 0 2, up2 s 287 0 0, ?_, ?_, hI.rs rs_thr⟩
  · simp only [p11_fault, a_gd, a_I, obs]
  · simp only [p12_fault, w_gd, w_putI, obs, w_getI]
    rw [up2_ne (by omega), h4.1]
end
